/-! ===== the model: faults, names ===== -/
/-- a fault at the token e -/
noncomputable def mis (T : Nat → Int32) (n e : Nat) : Nat := @ite _ (tK T n e = 276) (Classical.propDecidable _) 1 2
def pFt (I : zI) (k p : Nat) : zI := zuI (zuI I 160 4 (nI k)) 160 5 (nI p)
theorem pFt_fr (I : zI) (k p : Nat) : zFr [] [4, 5] I (pFt I k p) := zFr_s (zFr_s (zFr_rf _ _ _) (by decide)) (by decide)
theorem pFt_v (I : zI) (k p : Nat) : pFt I k p 160 4 = nI k ∧ pFt I k p 160 5 = nI p := by
  unfold pFt
  exact ⟨by rw [zuI_o (by decide), zuI_v], zuI_v _ _ _ _⟩
abbrev gw_X12_fails (d : Nat) (Q : zQt) (pc : Nat) (lv : zV) (st : List Value) (I : zI) (L : zL) (P : zP) : Prop := zW zm_X12_fails (zRm d 0 0) 0 0 Q pc lv st I L P 205 0 0
abbrev v_X12_fails (d : Nat) (Q : zQt) (p1 : Int32) (p2 : Int32) (I : zI) (L : zL) (P : zP) : Prop :=
  (((I 160 4) ≤ 0 →
    ∀ I2 : zI, I2 = zuI I 160 4 p1 →
    ∀ I4 : zI, I4 = zuI I2 160 5 p2 →
    Q none I4 L P 205
  ) ∧ (¬ (I 160 4) ≤ 0 →
    Q none I L P 205
  ))
set_option maxRecDepth 20000 in
theorem g_X12_fails {d : Nat} {Q : zQt} {p1 : Int32} {p2 : Int32} {I : zI} {L : zL} {P : zP} (hP : zPk P) (hv : v_X12_fails d Q p1 p2 I L P) : zM zm_X12_fails d 0 0 [.ref 160, .int p1, .int p2] I L P 205 Q := by
  unfold v_X12_fails at hv
  refine zM_of (lv0 := [some (.ref 160), some (.int p1), some (.int p2)]) (by decide +kernel) (Nat.le_of_ble_eq_true rfl) rfl ?_
  refine z_aload_n dX12_fails_0 rfl ?_
  refine z_getI dX12_fails_1 zf_X12_158 zn_160 zo_160 (fun _ _ _ _ _ => rfl) ?_
  refine z_if_le (tgt := 8) dX12_fails_4 (by decide) (fun q1 => ?_) (fun q1 => ?_)
  · have hv := hv.1 q1
    refine z_aload_n dX12_fails_8 rfl ?_
    refine z_iload_n dX12_fails_9 rfl ?_
    refine z_putI dX12_fails_10 zf_X12_158 zn_160 zo_160 (Or.inl rfl) (fun _ _ _ _ _ => rfl) rfl rfl (z_nmI (fun I2 e3 => ?_))
    have hv := hv I2 e3
    refine z_aload_n dX12_fails_13 rfl ?_
    refine z_iload_n dX12_fails_14 rfl ?_
    refine z_putI dX12_fails_15 zf_X12_16 zn_160 zo_160 (Or.inl rfl) (fun _ _ _ _ _ => rfl) rfl rfl (z_nmI (fun I4 e5 => ?_))
    have hv := hv I4 e5
    exact z_return dX12_fails_18 rfl (Nat.le_refl _) (Nat.le_refl _) hv
  · have hv := hv.2 q1
    exact z_return dX12_fails_7 rfl (Nat.le_refl _) (Nat.le_refl _) hv
theorem sp_X12_fails {d : Nat} {I : zI} {L : zL} {P : zP} {k p : Nat} (hP : zPk P) (h : I 160 4 = 0) {K : zI → zL → zP → Prop} (kk : K (pFt I k p) L P) : zMv zm_X12_fails d [.ref 160, .int (nI k), .int (nI p)] I L P K := by
  refine g_X12_fails hP ⟨fun _ I1 e1 I2 e2 => qv ?_, fun q => absurd (by rw [h]; decide) q⟩
  subst e1
  subst e2
  exact kk
abbrev gw_X12_misplaced (d : Nat) (Q : zQt) (pc : Nat) (lv : zV) (st : List Value) (I : zI) (L : zL) (P : zP) : Prop := zW zm_X12_misplaced (zRm d 0 0) 0 0 Q pc lv st I L P 205 0 0
abbrev v_X12_misplaced (d : Nat) (Q : zQt)  (I : zI) (L : zL) (P : zP) : Prop :=
  ((¬ (I 160 8) = 1 →
    zMv zm_X12_fails d [.ref 160, .int 2, .int (I 160 6)] I L P (fun I2 L3 P4 =>
      Q none I2 L3 P4 205
    )
  ) ∧ ((I 160 8) = 1 →
    zMv zm_X12_fails d [.ref 160, .int 1, .int (I 160 6)] I L P (fun I7 L8 P9 =>
      Q none I7 L8 P9 205
    )
  ))
set_option maxRecDepth 20000 in
theorem g_X12_misplaced {d : Nat} {Q : zQt}  {I : zI} {L : zL} {P : zP} (hP : zPk P) (hv : v_X12_misplaced d Q  I L P) : zM zm_X12_misplaced (d + 1) 0 0 [.ref 160] I L P 205 Q := by
  unfold v_X12_misplaced at hv
  refine zM_of (lv0 := [some (.ref 160)]) (by decide +kernel) (Nat.le_of_ble_eq_true rfl) rfl ?_
  refine z_aload_n dX12_misplaced_0 rfl ?_
  refine z_aload_n dX12_misplaced_1 rfl ?_
  refine z_getI dX12_misplaced_2 zf_X12_205 zn_160 zo_160 (fun _ _ _ _ _ => rfl) ?_
  refine z_iconst (v := 1) dX12_misplaced_5 (by decide) ?_
  refine z_icmp_ne (tgt := 13) dX12_misplaced_6 (by decide) (fun q1 => ?_) (fun q1 => ?_)
  · have hv := hv.1 q1
    refine z_iconst (v := 2) dX12_misplaced_13 (by decide) ?_
    refine z_aload_n dX12_misplaced_14 rfl ?_
    refine z_getI dX12_misplaced_15 zf_X12_198 zn_160 zo_160 (fun _ _ _ _ _ => rfl) ?_
    refine z_callV (As := [.int 2, .int (I 160 6)]) (st := []) dX12_misplaced_18 zl_X12_229 zv_X12_fails (by decide) rfl zn_160 zo_160 rfl rfl (Nat.le_of_ble_eq_true rfl) ⟨Nat.le_refl _, Nat.le_refl _⟩ ⟨Nat.le_refl _, Nat.le_refl _⟩ hv (fun v1 I2 L3 P4 nx1 q5 => ?_)
    obtain ⟨rfl, rfl, hv⟩ := q5
    exact z_return dX12_misplaced_21 rfl (Nat.le_refl _) (Nat.le_refl _) hv
  · have hv := hv.2 q1
    refine z_iconst (v := 1) dX12_misplaced_9 (by decide) ?_
    refine z_goto (tgt := 14) dX12_misplaced_10 (by decide) ?_
    refine z_aload_n dX12_misplaced_14 rfl ?_
    refine z_getI dX12_misplaced_15 zf_X12_198 zn_160 zo_160 (fun _ _ _ _ _ => rfl) ?_
    refine z_callV (As := [.int 1, .int (I 160 6)]) (st := []) dX12_misplaced_18 zl_X12_229 zv_X12_fails (by decide) rfl zn_160 zo_160 rfl rfl (Nat.le_of_ble_eq_true rfl) ⟨Nat.le_refl _, Nat.le_refl _⟩ ⟨Nat.le_refl _, Nat.le_refl _⟩ hv (fun v1 I7 L8 P9 nx1 q10 => ?_)
    obtain ⟨rfl, rfl, hv⟩ := q10
    exact z_return dX12_misplaced_21 rfl (Nat.le_refl _) (Nat.le_refl _) hv
theorem sp_X12_misplaced {d : Nat} {T : Nat → Int32} {n e : Nat} {I : zI} {L : zL} {P : zP} (hP : zPk P) (h : I 160 4 = 0) (hp : pS T n I L e) (hd : 1 ≤ d) {K : zI → zL → zP → Prop} (kk : K (pFt I (mis T n e) (tA T n e)) L P) : zMv zm_X12_misplaced d [.ref 160] I L P K := by
  obtain ⟨d, rfl⟩ : ∃ e, d = e + 1 := ⟨d - 1, by omega⟩
  have k := (pS_k hp).2.1
  refine g_X12_misplaced hP ⟨fun q => ?_, fun q => ?_⟩
  · rw [k] at q
    unfold mis at kk
    rw [if_neg q] at kk
    rw [hp.2.1]
    exact sp_X12_fails (k := 2) hP h (qv kk)
  · rw [k] at q
    unfold mis at kk
    rw [if_pos q] at kk
    rw [hp.2.1]
    exact sp_X12_fails (k := 1) hP h (qv kk)
abbrev gw_X12_must (d : Nat) (Q : zQt) (pc : Nat) (lv : zV) (st : List Value) (I : zI) (L : zL) (P : zP) : Prop := zW zm_X12_must (zRm d 0 0) 0 0 Q pc lv st I L P 205 0 0
abbrev v_X12_must (d : Nat) (Q : zQt) (p1 : Int32) (I : zI) (L : zL) (P : zP) : Prop :=
  ((¬ (bP (I 160 4 = 0)) = 0 →
    ((p1 = 0 →
      zMv zm_X12_misplaced d [.ref 160] I L P (fun I5 L6 P7 =>
        Q none I5 L6 P7 205
      )
    ) ∧ (¬ p1 = 0 →
      zMv zm_X12_goOn d [.ref 160] I L P (fun I10 L11 P12 =>
        Q none I10 L11 P12 205
      )
    ))
  ) ∧ ((bP (I 160 4 = 0)) = 0 →
    Q none I L P 205
  ))
set_option maxRecDepth 20000 in
theorem g_X12_must {d : Nat} {Q : zQt} {p1 : Int32} {I : zI} {L : zL} {P : zP} (hP : zPk P) (hv : v_X12_must d Q p1 I L P) : zM zm_X12_must (d + 1) 0 0 [.ref 160, .int p1] I L P 205 Q := by
  unfold v_X12_must at hv
  refine zM_of (lv0 := [some (.ref 160), some (.int p1)]) (by decide +kernel) (Nat.le_of_ble_eq_true rfl) rfl ?_
  refine z_aload_n dX12_must_0 rfl ?_
  refine z_callV (As := []) (st := []) dX12_must_1 zl_X12_233 zv_X12_isGood (by decide) rfl zn_160 zo_160 rfl rfl (Nat.le_of_ble_eq_true rfl) ⟨Nat.le_refl _, Nat.le_refl _⟩ ⟨Nat.le_refl _, Nat.le_refl _⟩ (sp_X12_isGood hP (K := fun r I' L' P' => bP (I 160 4 = 0) = r ∧ I = I' ∧ L = L' ∧ P = P') ⟨rfl, rfl, rfl, rfl⟩) (fun v1 I2 L2 P2 nx1 q2 => ?_)
  obtain ⟨rfl, r1, rfl, rfl, rfl, rfl, rfl⟩ := q2
  refine z_if_ne (tgt := 8) dX12_must_4 (by decide) (fun q3 => ?_) (fun q3 => ?_)
  · have hv := hv.1 q3
    refine z_iload_n dX12_must_8 rfl ?_
    refine z_if_eq (tgt := 19) dX12_must_9 (by decide) (fun q4 => ?_) (fun q4 => ?_)
    · have hv := hv.1 q4
      refine z_aload_n dX12_must_19 rfl ?_
      refine z_callV (As := []) (st := []) dX12_must_20 zl_X12_240 zv_X12_misplaced (by decide) rfl zn_160 zo_160 rfl rfl (Nat.le_of_ble_eq_true rfl) ⟨Nat.le_refl _, Nat.le_refl _⟩ ⟨Nat.le_refl _, Nat.le_refl _⟩ hv (fun v1 I5 L6 P7 nx1 q8 => ?_)
      obtain ⟨rfl, rfl, hv⟩ := q8
      exact z_return dX12_must_23 rfl (Nat.le_refl _) (Nat.le_refl _) hv
    · have hv := hv.2 q4
      refine z_aload_n dX12_must_12 rfl ?_
      refine z_callV (As := []) (st := []) dX12_must_13 zl_X12_237 zv_X12_goOn (by decide) rfl zn_160 zo_160 rfl rfl (Nat.le_of_ble_eq_true rfl) ⟨Nat.le_refl _, Nat.le_refl _⟩ ⟨Nat.le_refl _, Nat.le_refl _⟩ hv (fun v1 I10 L11 P12 nx1 q13 => ?_)
      obtain ⟨rfl, rfl, hv⟩ := q13
      refine z_goto (tgt := 23) dX12_must_16 (by decide) ?_
      exact z_return dX12_must_23 rfl (Nat.le_refl _) (Nat.le_refl _) hv
  · have hv := hv.2 q3
    exact z_return dX12_must_7 rfl (Nat.le_refl _) (Nat.le_refl _) hv
theorem sp_X12_must {d : Nat} {T : Nat → Int32} {n e : Nat} {b : Prop} {I : zI} {L : zL} {P : zP} (hP : zPk P) (h : I 160 4 = 0) (hp : pS T n I L e) (hd : 2 ≤ d) {K : zI → zL → zP → Prop} (k0 : ¬ b → K (pFt I (mis T n e) (tA T n e)) L P)
    (kk : b → ∀ I' L', zFr [] gS I I' → zLn L L' → pS T n I' L' (tE T n e) → K I' L' P) : zMv zm_X12_must d [.ref 160, .int (bP b)] I L P K := by
  obtain ⟨d, rfl⟩ : ∃ e, d = e + 1 := ⟨d - 1, by omega⟩
  refine g_X12_must hP ⟨fun _ => ⟨fun q => ?_, fun q => ?_⟩, fun q => absurd h (bP_0.mp q)⟩
  · exact sp_X12_misplaced hP h hp (by omega) (qv (k0 (bP_0.mp q)))
  · exact pS_go hP hp (by omega) (fun I' L' a b c => qv (kk (bP_n.mp q) I' L' a b c))
theorem sp_X12_mustB {d : Nat} {x : Int32} {I : zI} {L : zL} {P : zP} (hP : zPk P) (h : ¬ I 160 4 = 0) (hd : 2 ≤ d) {K : zI → zL → zP → Prop} (kk : K I L P) : zMv zm_X12_must d [.ref 160, .int x] I L P K := by
  obtain ⟨d, rfl⟩ : ∃ e, d = e + 1 := ⟨d - 1, by omega⟩
  exact g_X12_must hP ⟨fun q => absurd (bP_n.mp q) h, fun _ => qv kk⟩
/-- the first of m from i on that is v -/
def nfD (f : Nat → Int64) (v : Int64) : Nat → Nat → Option Nat
  | 0, _ => none
  | m + 1, i => if f i = v then some i else nfD f v m (i + 1)
theorem nfD_lt {f : Nat → Int64} {v : Int64} : ∀ {m i k : Nat}, nfD f v m i = some k → i ≤ k ∧ k < i + m
  | 0, _, _, h => by cases h
  | m + 1, i, k, h => by
    unfold nfD at h
    by_cases q : f i = v
    · rw [if_pos q] at h; cases h; omega
    · rw [if_neg q] at h; have := nfD_lt h; omega
theorem nfD_c {f g : Nat → Int64} {v : Int64} : ∀ {m i : Nat}, (∀ k, i ≤ k → k < i + m → f k = g k) → nfD f v m i = nfD g v m i
  | 0, _, _ => rfl
  | m + 1, i, h => by
    unfold nfD
    rw [h i (by omega) (by omega), nfD_c (m := m) (i := i + 1) (fun k a b => h k (by omega) (by omega))]
def oI : Option Nat → Int32
  | none => -1
  | some k => nI k
/-- the bank that is read into -/
def vR (I : zI) : Nat := (I 160 29).toNatClampNeg
def vRp (I : zI) : Nat := (I 163 (vR I)).toNatClampNeg
def MR (I : zI) : Prop := vR I < 2 ∧ I 160 29 = nI (vR I) ∧ vRp I ≤ 8 ∧ I 163 (vR I) = nI (vRp I)
def vNm (I : zI) (L : zL) (k : Nat) : Int64 := L 174 (8 * vR I + k)
abbrev gw_X12_here (d : Nat) (Q : zQt) (pc : Nat) (lv : zV) (st : List Value) (I : zI) (L : zL) (P : zP) : Prop := zW zm_X12_here (zRm d 0 0) 0 0 Q pc lv st I L P 205 0 0
abbrev v_X12_here_2 (d : Nat) (Q : zQt) (x1 : Int32) (I : zI) (L : zL) (P : zP) : Prop :=
  vp_in (I 160 29) 2 ∧
  (((I 163 (I 160 29).toNatClampNeg) ≤ x1 →
    Q (some (.int (-1))) I L P 205
  ) ∧ (¬ (I 163 (I 160 29).toNatClampNeg) ≤ x1 →
    ((¬ (I 160 8) = 2 →
      gw_X12_here d Q 2 [some (.ref 160), some (.int (x1 + 1))] [] I L P
    ) ∧ ((I 160 8) = 2 →
      vp_in (((8 : Int32) * (I 160 29)) + x1) 16 ∧
      ((¬ (lg_cmp (L 174 (((8 : Int32) * (I 160 29)) + x1).toNatClampNeg) (L 160 10)) = 0 →
        gw_X12_here d Q 2 [some (.ref 160), some (.int (x1 + 1))] [] I L P
      ) ∧ ((lg_cmp (L 174 (((8 : Int32) * (I 160 29)) + x1).toNatClampNeg) (L 160 10)) = 0 →
        Q (some (.int x1)) I L P 205
      ))
    ))
  ))
set_option maxRecDepth 20000 in
theorem g_X12_here_2 {d : Nat} {Q : zQt} {x1 : Int32} {I : zI} {L : zL} {P : zP} (hP : zPk P) (hv : v_X12_here_2 d Q x1 I L P) : gw_X12_here d Q 2 [some (.ref 160), some (.int x1)] [] I L P := by
  unfold v_X12_here_2 at hv
  refine z_iload_n dX12_here_2 rfl ?_
  refine z_aload_n dX12_here_3 rfl ?_
  refine z_getP dX12_here_4 zf_X12_20 zn_160 zo_160 (fun _ _ _ _ _ => rfl) (hP 160 11 163 zp_160_11) ?_
  refine z_aload_n dX12_here_7 rfl ?_
  refine z_getI dX12_here_8 zf_X12_243 zn_160 zo_160 (fun _ _ _ _ _ => rfl) ?_
  obtain ⟨h1, hv⟩ := hv
  refine z_iaload dX12_here_11 zn_163 zh_163 h1 ?_
  refine z_icmp_ge (tgt := 53) dX12_here_12 (by decide) (fun q2 => ?_) (fun q2 => ?_)
  · have hv := hv.1 q2
    refine z_iconst (v := (-1)) dX12_here_53 (by decide) ?_
    exact z_ireturn dX12_here_54 rfl rfl (Nat.le_refl _) (Nat.le_refl _) hv
  · have hv := hv.2 q2
    refine z_aload_n dX12_here_15 rfl ?_
    refine z_getI dX12_here_16 zf_X12_205 zn_160 zo_160 (fun _ _ _ _ _ => rfl) ?_
    refine z_iconst (v := 2) dX12_here_19 (by decide) ?_
    refine z_icmp_ne (tgt := 47) dX12_here_20 (by decide) (fun q3 => ?_) (fun q3 => ?_)
    · have hv := hv.1 q3
      refine z_iinc (v2 := x1 + 1) (lv2 := [some (.ref 160), some (.int (x1 + 1))]) dX12_here_47 rfl (by rfl) (by decide) rfl rfl ?_
      refine z_goto (tgt := 2) dX12_here_50 (by decide) ?_
      exact hv
    · have hv := hv.2 q3
      refine z_aload_n dX12_here_23 rfl ?_
      refine z_getP dX12_here_24 zf_X12_55 zn_160 zo_160 (fun _ _ _ _ _ => rfl) (hP 160 22 174 zp_160_22) ?_
      refine z_bipush (v := 8) dX12_here_27 (by decide) ?_
      refine z_aload_n dX12_here_29 rfl ?_
      refine z_getI dX12_here_30 zf_X12_243 zn_160 zo_160 (fun _ _ _ _ _ => rfl) ?_
      refine z_imul dX12_here_33 ?_
      refine z_iload_n dX12_here_34 rfl ?_
      refine z_iadd dX12_here_35 ?_
      obtain ⟨h4, hv⟩ := hv
      refine z_laload dX12_here_36 zn_174 zh_174 h4 ?_
      refine z_aload_n dX12_here_37 rfl ?_
      refine z_getL dX12_here_38 zf_X12_212 zn_160 zo_160 (fun _ _ _ _ _ => rfl) ?_
      refine z_lcmp dX12_here_41 ?_
      refine z_if_ne (tgt := 47) dX12_here_42 (by decide) (fun q5 => ?_) (fun q5 => ?_)
      · have hv := hv.1 q5
        refine z_iinc (v2 := x1 + 1) (lv2 := [some (.ref 160), some (.int (x1 + 1))]) dX12_here_47 rfl (by rfl) (by decide) rfl rfl ?_
        refine z_goto (tgt := 2) dX12_here_50 (by decide) ?_
        exact hv
      · have hv := hv.2 q5
        refine z_iload_n dX12_here_45 rfl ?_
        exact z_ireturn dX12_here_46 rfl rfl (Nat.le_refl _) (Nat.le_refl _) hv
abbrev v_X12_here (d : Nat) (Q : zQt)  (I : zI) (L : zL) (P : zP) : Prop :=
  gw_X12_here d Q 2 [some (.ref 160), some (.int 0)] [] I L P
set_option maxRecDepth 20000 in
theorem g_X12_here {d : Nat} {Q : zQt}  {I : zI} {L : zL} {P : zP} (hP : zPk P) (hv : v_X12_here d Q  I L P) : zM zm_X12_here d 0 0 [.ref 160] I L P 205 Q := by
  unfold v_X12_here at hv
  refine zM_of (lv0 := [some (.ref 160), none]) (by decide +kernel) (Nat.le_of_ble_eq_true rfl) rfl ?_
  refine z_iconst (v := 0) dX12_here_0 (by decide) ?_
  refine z_istore_n (lv2 := [some (.ref 160), some (.int 0)]) dX12_here_1 (by decide) rfl rfl ?_
  exact hv
theorem lp_X12_here {d : Nat} {Q : zQt} {I : zI} {L : zL} {P : zP} (hP : zPk P) (hR : MR I) {res : Int32} (kk : Q (some (.int res)) I L P 205) :
    ∀ m i, i + m = vRp I → (if I 160 8 = 2 then oI (nfD (vNm I L) (L 160 10) m i) else -1) = res → gw_X12_here d Q 2 [some (.ref 160), some (.int (nI i))] [] I L P := by
  obtain ⟨r1, r2, r3, r4⟩ := hR
  have hin : vp_in (I 160 29) 2 := by rw [r2]; exact nx_in r1 (by decide)
  have e163 : I 163 (I 160 29).toNatClampNeg = nI (vRp I) := r4
  intro m
  induction m with
  | zero =>
    intro i hi hr
    refine g_X12_here_2 hP ⟨hin, fun _ => ?_, fun q => absurd (by rw [e163]; exact nI_le (by omega) (by omega)) q⟩
    have : res = -1 := by rw [← hr]; split <;> rfl
    rw [this] at kk
    exact kk
  | succ m ih =>
    intro i hi hr
    have ei : ((8 : Int32) * (I 160 29)) + nI i = nI (8 * vR I + i) := by rw [r2, show (8 : Int32) = nI 8 from rfl, pk_mul, nI_add]
    refine g_X12_here_2 hP ⟨hin, fun q => absurd q (by rw [e163]; exact nI_ge (by omega) (by omega)), fun _ => ⟨fun q => ?_, fun q => ⟨by rw [ei]; exact nx_in (by omega) (by decide), fun q2 => ?_, fun q2 => ?_⟩⟩⟩
    · rw [nI_1]
      rw [if_neg q] at hr
      exact ih (i + 1) (by omega) (by rw [if_neg q]; exact hr)
    · rw [lg_cmp_eq, ei, nI_cl (by omega)] at q2
      rw [nI_1]
      rw [if_pos q] at hr
      refine ih (i + 1) (by omega) ?_
      rw [if_pos q, ← hr]
      unfold nfD
      rw [if_neg (show ¬ vNm I L i = L 160 10 from q2)]
      cases m <;> rfl
    · rw [lg_cmp_eq, ei, nI_cl (by omega)] at q2
      rw [if_pos q] at hr
      unfold nfD at hr
      rw [if_pos (show vNm I L i = L 160 10 from q2)] at hr
      rw [← hr] at kk
      exact kk
/-- who stands here -/
noncomputable def hR (T : Nat → Int32) (n e : Nat) (I : zI) (L : zL) : Option Nat := @ite _ (tK T n e = 273) (Classical.propDecidable _) (nfD (vNm I L) (tV T n e) (vRp I) 0) none
theorem sp_X12_here {d : Nat} {T : Nat → Int32} {n e : Nat} {I : zI} {L : zL} {P : zP} (hP : zPk P) (hM : MR I) (hp : pS T n I L e) {K : Int32 → zI → zL → zP → Prop} (kk : K (oI (hR T n e I L)) I L P) : zMi zm_X12_here d [.ref 160] I L P K := by
  refine g_X12_here hP (lp_X12_here hP hM (qi kk) (vRp I) 0 (by omega) ?_)
  have k := (pS_k hp).2.2.1
  unfold hR
  by_cases q : tK T n e = 273
  · rw [if_pos (k.mpr q), if_pos q, hp.2.2.2.2.1 (by omega) (by omega)]
  · rw [if_neg (fun z => q (k.mp z)), if_neg q]; rfl
theorem hR_lt {T : Nat → Int32} {n e : Nat} {I : zI} {L : zL} {k : Nat} (h : hR T n e I L = some k) : k < vRp I ∧ tK T n e = 273 := by
  unfold hR at h
  by_cases q : tK T n e = 273
  · rw [if_pos q] at h; have := nfD_lt h; exact ⟨by omega, q⟩
  · rw [if_neg q] at h; cases h
abbrev gw_X12_known (d : Nat) (Q : zQt) (pc : Nat) (lv : zV) (st : List Value) (I : zI) (L : zL) (P : zP) : Prop := zW zm_X12_known (zRm d 0 0) 0 0 Q pc lv st I L P 205 0 0
abbrev v_X12_known (d : Nat) (Q : zQt) (p1 : Int32) (I : zI) (L : zL) (P : zP) : Prop :=
  ((¬ (bP (I 160 4 = 0)) = 0 →
    (((I 160 8) = 2 →
      ((0 ≤ p1 →
        zMv zm_X12_goOn d [.ref 160] I L P (fun I9 L10 P11 =>
          Q (some (.int p1)) I9 L10 P11 205
        )
      ) ∧ (¬ 0 ≤ p1 →
        zMv zm_X12_fails d [.ref 160, .int 4, .int (I 160 6)] I L P (fun I15 L16 P17 =>
          zPk P17 ∧
          (((bP (I15 160 4 = 0)) = 0 →
            Q (some (.int 0)) I15 L16 P17 205
          ) ∧ (¬ (bP (I15 160 4 = 0)) = 0 →
            zMv zm_X12_goOn d [.ref 160] I15 L16 P17 (fun I25 L26 P27 =>
              Q (some (.int 0)) I25 L26 P27 205
            )
          ))
        )
      ))
    ) ∧ (¬ (I 160 8) = 2 →
      zMv zm_X12_misplaced d [.ref 160] I L P (fun I31 L32 P33 =>
        zPk P33 ∧
        (((bP (I31 160 4 = 0)) = 0 →
          ((0 ≤ p1 →
            Q (some (.int p1)) I31 L32 P33 205
          ) ∧ (¬ 0 ≤ p1 →
            Q (some (.int 0)) I31 L32 P33 205
          ))
        ) ∧ (¬ (bP (I31 160 4 = 0)) = 0 →
          zMv zm_X12_goOn d [.ref 160] I31 L32 P33 (fun I41 L42 P43 =>
            ((0 ≤ p1 →
              Q (some (.int p1)) I41 L42 P43 205
            ) ∧ (¬ 0 ≤ p1 →
              Q (some (.int 0)) I41 L42 P43 205
            ))
          )
        ))
      )
    ))
  ) ∧ ((bP (I 160 4 = 0)) = 0 →
    Q (some (.int 0)) I L P 205
  ))
set_option maxRecDepth 20000 in
theorem g_X12_known {d : Nat} {Q : zQt} {p1 : Int32} {I : zI} {L : zL} {P : zP} (hP : zPk P) (hv : v_X12_known d Q p1 I L P) : zM zm_X12_known (d + 1) 0 0 [.ref 160, .int p1] I L P 205 Q := by
  unfold v_X12_known at hv
  refine zM_of (lv0 := [some (.ref 160), some (.int p1)]) (by decide +kernel) (Nat.le_of_ble_eq_true rfl) rfl ?_
  refine z_aload_n dX12_known_0 rfl ?_
  refine z_callV (As := []) (st := []) dX12_known_1 zl_X12_233 zv_X12_isGood (by decide) rfl zn_160 zo_160 rfl rfl (Nat.le_of_ble_eq_true rfl) ⟨Nat.le_refl _, Nat.le_refl _⟩ ⟨Nat.le_refl _, Nat.le_refl _⟩ (sp_X12_isGood hP (K := fun r I' L' P' => bP (I 160 4 = 0) = r ∧ I = I' ∧ L = L' ∧ P = P') ⟨rfl, rfl, rfl, rfl⟩) (fun v1 I2 L2 P2 nx1 q2 => ?_)
  obtain ⟨rfl, r1, rfl, rfl, rfl, rfl, rfl⟩ := q2
  refine z_if_ne (tgt := 9) dX12_known_4 (by decide) (fun q3 => ?_) (fun q3 => ?_)
  · have hv := hv.1 q3
    refine z_aload_n dX12_known_9 rfl ?_
    refine z_getI dX12_known_10 zf_X12_205 zn_160 zo_160 (fun _ _ _ _ _ => rfl) ?_
    refine z_iconst (v := 2) dX12_known_13 (by decide) ?_
    refine z_icmp_eq (tgt := 24) dX12_known_14 (by decide) (fun q4 => ?_) (fun q4 => ?_)
    · have hv := hv.1 q4
      refine z_iload_n dX12_known_24 rfl ?_
      refine z_if_ge (tgt := 37) dX12_known_25 (by decide) (fun q5 => ?_) (fun q5 => ?_)
      · have hv := hv.1 q5
        refine z_aload_n dX12_known_37 rfl ?_
        refine z_callV (As := []) (st := []) dX12_known_38 zl_X12_233 zv_X12_isGood (by decide) rfl zn_160 zo_160 rfl rfl (Nat.le_of_ble_eq_true rfl) ⟨Nat.le_refl _, Nat.le_refl _⟩ ⟨Nat.le_refl _, Nat.le_refl _⟩ (sp_X12_isGood hP (K := fun r I' L' P' => bP (I 160 4 = 0) = r ∧ I = I' ∧ L = L' ∧ P = P') ⟨rfl, rfl, rfl, rfl⟩) (fun v1 I2 L2 P2 nx1 q7 => ?_)
        obtain ⟨rfl, r6, rfl, rfl, rfl, rfl, rfl⟩ := q7
        refine z_if_eq (tgt := 48) dX12_known_41 (by decide) (fun q8 => ?_) (fun q8 => ?_)
        · exact absurd q8 q3
        · skip
          refine z_aload_n dX12_known_44 rfl ?_
          refine z_callV (As := []) (st := []) dX12_known_45 zl_X12_237 zv_X12_goOn (by decide) rfl zn_160 zo_160 rfl rfl (Nat.le_of_ble_eq_true rfl) ⟨Nat.le_refl _, Nat.le_refl _⟩ ⟨Nat.le_refl _, Nat.le_refl _⟩ hv (fun v1 I9 L10 P11 nx1 q12 => ?_)
          obtain ⟨rfl, rfl, hv⟩ := q12
          refine z_iload_n dX12_known_48 rfl ?_
          refine z_if_ge (tgt := 56) dX12_known_49 (by decide) (fun q14 => ?_) (fun q14 => ?_)
          · skip
            refine z_iload_n dX12_known_56 rfl ?_
            exact z_ireturn dX12_known_57 rfl rfl (Nat.le_refl _) (Nat.le_refl _) hv
          · exact absurd q5 q14
      · have hv := hv.2 q5
        refine z_aload_n dX12_known_28 rfl ?_
        refine z_iconst (v := 4) dX12_known_29 (by decide) ?_
        refine z_aload_n dX12_known_30 rfl ?_
        refine z_getI dX12_known_31 zf_X12_198 zn_160 zo_160 (fun _ _ _ _ _ => rfl) ?_
        refine z_callV (As := [.int 4, .int (I 160 6)]) (st := []) dX12_known_34 zl_X12_229 zv_X12_fails (by decide) rfl zn_160 zo_160 rfl rfl (Nat.le_of_ble_eq_true rfl) ⟨Nat.le_refl _, Nat.le_refl _⟩ ⟨Nat.le_refl _, Nat.le_refl _⟩ hv (fun v1 I15 L16 P17 nx1 q18 => ?_)
        obtain ⟨rfl, rfl, hv⟩ := q18
        refine z_aload_n dX12_known_37 rfl ?_
        obtain ⟨h20, hv⟩ := hv
        refine z_callV (As := []) (st := []) dX12_known_38 zl_X12_233 zv_X12_isGood (by decide) rfl zn_160 zo_160 rfl rfl (Nat.le_of_ble_eq_true rfl) ⟨Nat.le_refl _, Nat.le_refl _⟩ ⟨Nat.le_refl _, Nat.le_refl _⟩ (sp_X12_isGood h20 (K := fun r I' L' P' => bP (I15 160 4 = 0) = r ∧ I15 = I' ∧ L16 = L' ∧ P17 = P') ⟨rfl, rfl, rfl, rfl⟩) (fun v1 I2 L2 P2 nx1 q22 => ?_)
        obtain ⟨rfl, r21, rfl, rfl, rfl, rfl, rfl⟩ := q22
        refine z_if_eq (tgt := 48) dX12_known_41 (by decide) (fun q23 => ?_) (fun q23 => ?_)
        · have hv := hv.1 q23
          refine z_iload_n dX12_known_48 rfl ?_
          refine z_if_ge (tgt := 56) dX12_known_49 (by decide) (fun q24 => ?_) (fun q24 => ?_)
          · exact absurd q24 q5
          · skip
            refine z_iconst (v := 0) dX12_known_52 (by decide) ?_
            refine z_goto (tgt := 57) dX12_known_53 (by decide) ?_
            exact z_ireturn dX12_known_57 rfl rfl (Nat.le_refl _) (Nat.le_refl _) hv
        · have hv := hv.2 q23
          refine z_aload_n dX12_known_44 rfl ?_
          refine z_callV (As := []) (st := []) dX12_known_45 zl_X12_237 zv_X12_goOn (by decide) rfl zn_160 zo_160 rfl rfl (Nat.le_of_ble_eq_true rfl) ⟨Nat.le_refl _, Nat.le_refl _⟩ ⟨Nat.le_refl _, Nat.le_refl _⟩ hv (fun v1 I25 L26 P27 nx1 q28 => ?_)
          obtain ⟨rfl, rfl, hv⟩ := q28
          refine z_iload_n dX12_known_48 rfl ?_
          refine z_if_ge (tgt := 56) dX12_known_49 (by decide) (fun q30 => ?_) (fun q30 => ?_)
          · exact absurd q30 q5
          · skip
            refine z_iconst (v := 0) dX12_known_52 (by decide) ?_
            refine z_goto (tgt := 57) dX12_known_53 (by decide) ?_
            exact z_ireturn dX12_known_57 rfl rfl (Nat.le_refl _) (Nat.le_refl _) hv
    · have hv := hv.2 q4
      refine z_aload_n dX12_known_17 rfl ?_
      refine z_callV (As := []) (st := []) dX12_known_18 zl_X12_240 zv_X12_misplaced (by decide) rfl zn_160 zo_160 rfl rfl (Nat.le_of_ble_eq_true rfl) ⟨Nat.le_refl _, Nat.le_refl _⟩ ⟨Nat.le_refl _, Nat.le_refl _⟩ hv (fun v1 I31 L32 P33 nx1 q34 => ?_)
      obtain ⟨rfl, rfl, hv⟩ := q34
      refine z_goto (tgt := 37) dX12_known_21 (by decide) ?_
      refine z_aload_n dX12_known_37 rfl ?_
      obtain ⟨h36, hv⟩ := hv
      refine z_callV (As := []) (st := []) dX12_known_38 zl_X12_233 zv_X12_isGood (by decide) rfl zn_160 zo_160 rfl rfl (Nat.le_of_ble_eq_true rfl) ⟨Nat.le_refl _, Nat.le_refl _⟩ ⟨Nat.le_refl _, Nat.le_refl _⟩ (sp_X12_isGood h36 (K := fun r I' L' P' => bP (I31 160 4 = 0) = r ∧ I31 = I' ∧ L32 = L' ∧ P33 = P') ⟨rfl, rfl, rfl, rfl⟩) (fun v1 I2 L2 P2 nx1 q38 => ?_)
      obtain ⟨rfl, r37, rfl, rfl, rfl, rfl, rfl⟩ := q38
      refine z_if_eq (tgt := 48) dX12_known_41 (by decide) (fun q39 => ?_) (fun q39 => ?_)
      · have hv := hv.1 q39
        refine z_iload_n dX12_known_48 rfl ?_
        refine z_if_ge (tgt := 56) dX12_known_49 (by decide) (fun q40 => ?_) (fun q40 => ?_)
        · have hv := hv.1 q40
          refine z_iload_n dX12_known_56 rfl ?_
          exact z_ireturn dX12_known_57 rfl rfl (Nat.le_refl _) (Nat.le_refl _) hv
        · have hv := hv.2 q40
          refine z_iconst (v := 0) dX12_known_52 (by decide) ?_
          refine z_goto (tgt := 57) dX12_known_53 (by decide) ?_
          exact z_ireturn dX12_known_57 rfl rfl (Nat.le_refl _) (Nat.le_refl _) hv
      · have hv := hv.2 q39
        refine z_aload_n dX12_known_44 rfl ?_
        refine z_callV (As := []) (st := []) dX12_known_45 zl_X12_237 zv_X12_goOn (by decide) rfl zn_160 zo_160 rfl rfl (Nat.le_of_ble_eq_true rfl) ⟨Nat.le_refl _, Nat.le_refl _⟩ ⟨Nat.le_refl _, Nat.le_refl _⟩ hv (fun v1 I41 L42 P43 nx1 q44 => ?_)
        obtain ⟨rfl, rfl, hv⟩ := q44
        refine z_iload_n dX12_known_48 rfl ?_
        refine z_if_ge (tgt := 56) dX12_known_49 (by decide) (fun q46 => ?_) (fun q46 => ?_)
        · have hv := hv.1 q46
          refine z_iload_n dX12_known_56 rfl ?_
          exact z_ireturn dX12_known_57 rfl rfl (Nat.le_refl _) (Nat.le_refl _) hv
        · have hv := hv.2 q46
          refine z_iconst (v := 0) dX12_known_52 (by decide) ?_
          refine z_goto (tgt := 57) dX12_known_53 (by decide) ?_
          exact z_ireturn dX12_known_57 rfl rfl (Nat.le_refl _) (Nat.le_refl _) hv
  · have hv := hv.2 q3
    refine z_iconst (v := 0) dX12_known_7 (by decide) ?_
    exact z_ireturn dX12_known_8 rfl rfl (Nat.le_refl _) (Nat.le_refl _) hv
theorem sp_X12_known {d : Nat} {T : Nat → Int32} {n e : Nat} {I : zI} {L : zL} {P : zP} (hP : zPk P) (hM : MR I) (h : I 160 4 = 0) (hp : pS T n I L e) (hd : 2 ≤ d) {K : Int32 → zI → zL → zP → Prop}
    (k1 : ¬ tK T n e = 273 → K 0 (pFt I (mis T n e) (tA T n e)) L P) (k2 : tK T n e = 273 → hR T n e I L = none → K 0 (pFt I 4 (tA T n e)) L P)
    (k3 : ∀ k, k < vRp I → hR T n e I L = some k → tK T n e = 273 → ∀ I' L', zFr [] gS I I' → zLn L L' → pS T n I' L' (tE T n e) → K (nI k) I' L' P) : zMi zm_X12_known d [.ref 160, .int (oI (hR T n e I L))] I L P K := by
  obtain ⟨d, rfl⟩ : ∃ e, d = e + 1 := ⟨d - 1, by omega⟩
  have k := (pS_k hp).2.2.1
  have r3 := hM.2.2.1
  have bad : ∀ a b, a ≠ 0 → a < 100 → ¬ bP (pFt I a b 160 4 = 0) = 0 → False := by
    intro a b ha hb q
    rw [bP_n, (pFt_v I a b).1, nI_zero (by omega)] at q
    exact ha q
  have m12 : mis T n e ≠ 0 ∧ mis T n e < 100 := by
    unfold mis
    by_cases q : tK T n e = 276
    · rw [if_pos q]; decide
    · rw [if_neg q]; decide
  refine g_X12_known hP ⟨fun _ => ⟨fun q => ⟨fun q2 => ?_, fun q2 => ?_⟩, fun q => ?_⟩, fun q => absurd h (bP_0.mp q)⟩
  · rw [k] at q
    cases ho : hR T n e I L with
    | none => rw [ho] at q2; exact absurd q2 (by decide)
    | some j =>
      rw [ho] at q2
      have hj := (hR_lt ho).1
      exact pS_go hP hp (by omega) (fun I' L' a b c => qi (k3 j hj ho q I' L' a b c))
  · rw [k] at q
    cases ho : hR T n e I L with
    | some j =>
      rw [ho] at q2
      have hj := (hR_lt ho).1
      exact absurd (nI_pos' (by omega)) q2
    | none =>
      rw [hp.2.1]
      refine sp_X12_fails (k := 4) hP h ⟨hP, fun _ => qi (k2 q ho), fun z => (bad 4 _ (by decide) (by decide) z).elim⟩
  · rw [k] at q
    have hn : hR T n e I L = none := by unfold hR; rw [if_neg q]
    rw [hn]
    refine sp_X12_misplaced hP h hp (by omega) ⟨hP, fun _ => ⟨fun z => absurd z (by decide), fun _ => qi (k1 q)⟩, fun z => (bad _ _ m12.1 m12.2 z).elim⟩
theorem sp_X12_knownB {d : Nat} {x : Int32} {I : zI} {L : zL} {P : zP} (hP : zPk P) (h : ¬ I 160 4 = 0) (hd : 2 ≤ d) {K : Int32 → zI → zL → zP → Prop} (kk : K 0 I L P) : zMi zm_X12_known d [.ref 160, .int x] I L P K := by
  obtain ⟨d, rfl⟩ : ∃ e, d = e + 1 := ⟨d - 1, by omega⟩
  exact g_X12_known hP ⟨fun q => absurd (bP_n.mp q) h, fun _ => qi kk⟩
abbrev gw_X12_flag (d : Nat) (Q : zQt) (pc : Nat) (lv : zV) (st : List Value) (I : zI) (L : zL) (P : zP) : Prop := zW zm_X12_flag (zRm d 0 0) 0 0 Q pc lv st I L P 205 0 0
abbrev v_X12_flag (d : Nat) (Q : zQt) (p1 : Int64) (I : zI) (L : zL) (P : zP) : Prop :=
  (((bP (I 160 4 = 0)) = 0 →
    (((0 : Int32) = 0 →
      Q (some (.int 0)) I L P 205
    ) ∧ (¬ (0 : Int32) = 0 →
      zMv zm_X12_goOn d [.ref 160] I L P (fun I5 L6 P7 =>
        Q (some (.int 0)) I5 L6 P7 205
      )
    ))
  ) ∧ (¬ (bP (I 160 4 = 0)) = 0 →
    (((bP (I 160 8 = 3 ∧ L 160 10 = p1)) = 0 →
      (((0 : Int32) = 0 →
        Q (some (.int 0)) I L P 205
      ) ∧ (¬ (0 : Int32) = 0 →
        zMv zm_X12_goOn d [.ref 160] I L P (fun I14 L15 P16 =>
          Q (some (.int 0)) I14 L15 P16 205
        )
      ))
    ) ∧ (¬ (bP (I 160 8 = 3 ∧ L 160 10 = p1)) = 0 →
      (((1 : Int32) = 0 →
        Q (some (.int 1)) I L P 205
      ) ∧ (¬ (1 : Int32) = 0 →
        zMv zm_X12_goOn d [.ref 160] I L P (fun I20 L21 P22 =>
          Q (some (.int 1)) I20 L21 P22 205
        )
      ))
    ))
  ))
set_option maxRecDepth 20000 in
theorem g_X12_flag {d : Nat} {Q : zQt} {p1 : Int64} {I : zI} {L : zL} {P : zP} (hP : zPk P) (hv : v_X12_flag d Q p1 I L P) : zM zm_X12_flag (d + 1) 0 0 [.ref 160, .long p1] I L P 205 Q := by
  unfold v_X12_flag at hv
  refine zM_of (lv0 := [some (.ref 160), some (.long p1), none, none]) (by decide +kernel) (Nat.le_of_ble_eq_true rfl) rfl ?_
  refine z_aload_n dX12_flag_0 rfl ?_
  refine z_callV (As := []) (st := []) dX12_flag_1 zl_X12_233 zv_X12_isGood (by decide) rfl zn_160 zo_160 rfl rfl (Nat.le_of_ble_eq_true rfl) ⟨Nat.le_refl _, Nat.le_refl _⟩ ⟨Nat.le_refl _, Nat.le_refl _⟩ (sp_X12_isGood hP (K := fun r I' L' P' => bP (I 160 4 = 0) = r ∧ I = I' ∧ L = L' ∧ P = P') ⟨rfl, rfl, rfl, rfl⟩) (fun v1 I2 L2 P2 nx1 q2 => ?_)
  obtain ⟨rfl, r1, rfl, rfl, rfl, rfl, rfl⟩ := q2
  refine z_if_eq (tgt := 19) dX12_flag_4 (by decide) (fun q3 => ?_) (fun q3 => ?_)
  · have hv := hv.1 q3
    refine z_iconst (v := 0) dX12_flag_19 (by decide) ?_
    refine z_istore_n (lv2 := [some (.ref 160), some (.long p1), none, some (.int 0)]) dX12_flag_20 (by decide) rfl rfl ?_
    refine z_iload_n dX12_flag_21 rfl ?_
    refine z_if_eq (tgt := 29) dX12_flag_22 (by decide) (fun q4 => ?_) (fun q4 => ?_)
    · have hv := hv.1 q4
      refine z_iload_n dX12_flag_29 rfl ?_
      exact z_ireturn dX12_flag_30 rfl (by decide) (Nat.le_refl _) (Nat.le_refl _) hv
    · have hv := hv.2 q4
      refine z_aload_n dX12_flag_25 rfl ?_
      refine z_callV (As := []) (st := []) dX12_flag_26 zl_X12_237 zv_X12_goOn (by decide) rfl zn_160 zo_160 rfl rfl (Nat.le_of_ble_eq_true rfl) ⟨Nat.le_refl _, Nat.le_refl _⟩ ⟨Nat.le_refl _, Nat.le_refl _⟩ hv (fun v1 I5 L6 P7 nx1 q8 => ?_)
      obtain ⟨rfl, rfl, hv⟩ := q8
      refine z_iload_n dX12_flag_29 rfl ?_
      exact z_ireturn dX12_flag_30 rfl (by decide) (Nat.le_refl _) (Nat.le_refl _) hv
  · have hv := hv.2 q3
    refine z_aload_n dX12_flag_7 rfl ?_
    refine z_lload_n dX12_flag_8 rfl ?_
    refine z_callV (As := [.long p1]) (st := []) dX12_flag_9 zl_X12_270 zv_X12_isWord (by decide) rfl zn_160 zo_160 rfl rfl (Nat.le_of_ble_eq_true rfl) ⟨Nat.le_refl _, Nat.le_refl _⟩ ⟨Nat.le_refl _, Nat.le_refl _⟩ (sp_X12_isWord hP (K := fun r I' L' P' => bP (I 160 8 = 3 ∧ L 160 10 = p1) = r ∧ I = I' ∧ L = L' ∧ P = P') ⟨rfl, rfl, rfl, rfl⟩) (fun v1 I2 L2 P2 nx1 q11 => ?_)
    obtain ⟨rfl, r10, rfl, rfl, rfl, rfl, rfl⟩ := q11
    refine z_if_eq (tgt := 19) dX12_flag_12 (by decide) (fun q12 => ?_) (fun q12 => ?_)
    · have hv := hv.1 q12
      refine z_iconst (v := 0) dX12_flag_19 (by decide) ?_
      refine z_istore_n (lv2 := [some (.ref 160), some (.long p1), none, some (.int 0)]) dX12_flag_20 (by decide) rfl rfl ?_
      refine z_iload_n dX12_flag_21 rfl ?_
      refine z_if_eq (tgt := 29) dX12_flag_22 (by decide) (fun q13 => ?_) (fun q13 => ?_)
      · have hv := hv.1 q13
        refine z_iload_n dX12_flag_29 rfl ?_
        exact z_ireturn dX12_flag_30 rfl (by decide) (Nat.le_refl _) (Nat.le_refl _) hv
      · have hv := hv.2 q13
        refine z_aload_n dX12_flag_25 rfl ?_
        refine z_callV (As := []) (st := []) dX12_flag_26 zl_X12_237 zv_X12_goOn (by decide) rfl zn_160 zo_160 rfl rfl (Nat.le_of_ble_eq_true rfl) ⟨Nat.le_refl _, Nat.le_refl _⟩ ⟨Nat.le_refl _, Nat.le_refl _⟩ hv (fun v1 I14 L15 P16 nx1 q17 => ?_)
        obtain ⟨rfl, rfl, hv⟩ := q17
        refine z_iload_n dX12_flag_29 rfl ?_
        exact z_ireturn dX12_flag_30 rfl (by decide) (Nat.le_refl _) (Nat.le_refl _) hv
    · have hv := hv.2 q12
      refine z_iconst (v := 1) dX12_flag_15 (by decide) ?_
      refine z_goto (tgt := 20) dX12_flag_16 (by decide) ?_
      refine z_istore_n (lv2 := [some (.ref 160), some (.long p1), none, some (.int 1)]) dX12_flag_20 (by decide) rfl rfl ?_
      refine z_iload_n dX12_flag_21 rfl ?_
      refine z_if_eq (tgt := 29) dX12_flag_22 (by decide) (fun q19 => ?_) (fun q19 => ?_)
      · have hv := hv.1 q19
        refine z_iload_n dX12_flag_29 rfl ?_
        exact z_ireturn dX12_flag_30 rfl (by decide) (Nat.le_refl _) (Nat.le_refl _) hv
      · have hv := hv.2 q19
        refine z_aload_n dX12_flag_25 rfl ?_
        refine z_callV (As := []) (st := []) dX12_flag_26 zl_X12_237 zv_X12_goOn (by decide) rfl zn_160 zo_160 rfl rfl (Nat.le_of_ble_eq_true rfl) ⟨Nat.le_refl _, Nat.le_refl _⟩ ⟨Nat.le_refl _, Nat.le_refl _⟩ hv (fun v1 I20 L21 P22 nx1 q23 => ?_)
        obtain ⟨rfl, rfl, hv⟩ := q23
        refine z_iload_n dX12_flag_29 rfl ?_
        exact z_ireturn dX12_flag_30 rfl (by decide) (Nat.le_refl _) (Nat.le_refl _) hv
theorem sp_X12_flag {d : Nat} {T : Nat → Int32} {n e i : Nat} {x : Int64} {I : zI} {L : zL} {P : zP} (hP : zPk P) (h : I 160 4 = 0) (hp : pS T n I L e) (hi : i < 17) (hx : x = wdL[i]'hi) (hd : 2 ≤ d) {K : Int32 → zI → zL → zP → Prop}
    (k0 : ¬ tK T n e = 256 + i → K 0 I L P) (kk : tK T n e = 256 + i → ∀ I' L', zFr [] gS I I' → zLn L L' → pS T n I' L' (tE T n e) → K 1 I' L' P) : zMi zm_X12_flag d [.ref 160, .long x] I L P K := by
  obtain ⟨d, rfl⟩ : ∃ e, d = e + 1 := ⟨d - 1, by omega⟩
  have k := pS_w hp hi hx
  refine g_X12_flag hP ⟨fun q => absurd h (bP_0.mp q), fun _ => ⟨fun q => ⟨fun _ => qi (k0 (fun z => bP_0.mp q (k.mpr z))), fun z => absurd rfl z⟩, fun q => ⟨fun z => absurd z (by decide), fun _ => ?_⟩⟩⟩
  exact pS_go hP hp (by omega) (fun I' L' a b c => qi (kk (k.mp (bP_n.mp q)) I' L' a b c))
theorem sp_X12_flagB {d : Nat} {x : Int64} {I : zI} {L : zL} {P : zP} (hP : zPk P) (h : ¬ I 160 4 = 0) (hd : 2 ≤ d) {K : Int32 → zI → zL → zP → Prop} (kk : K 0 I L P) : zMi zm_X12_flag d [.ref 160, .long x] I L P K := by
  obtain ⟨d, rfl⟩ : ∃ e, d = e + 1 := ⟨d - 1, by omega⟩
  exact g_X12_flag hP ⟨fun _ => ⟨fun _ => qi kk, fun z => absurd rfl z⟩, fun q => absurd (bP_n.mp q) h⟩
