/-! ===== the model: its small public methods ===== -/
theorem vp_nI {p : Int32} {n : Nat} (h : vp_in p n) (hn : n < 2 ^ 31) : ∃ k, k < n ∧ p = nI k := vp_in_of h hn
abbrev gw_X12_worlds (d : Nat) (Q : zQt) (pc : Nat) (lv : zV) (st : List Value) (I : zI) (L : zL) (P : zP) : Prop := zW zm_X12_worlds (zRm d 0 0) 0 0 Q pc lv st I L P 205 0 0
abbrev v_X12_worlds_4 (d : Nat) (Q : zQt) (x1 : Int32) (x2 : Int32) (I : zI) (L : zL) (P : zP) : Prop :=
  MB I ∧
  (((nI (vN I)) ≤ x2 →
    Q (some (.int x1)) I L P 205
  ) ∧ (¬ (nI (vN I)) ≤ x2 →
    vp_in x2 256 ∧
    (((I 180 x2.toNatClampNeg) = 0 →
      gw_X12_worlds (d + 1) Q 4 [some (.ref 160), some (.int (x1 + 0)), some (.int (x2 + 1))] [] I L P
    ) ∧ (¬ (I 180 x2.toNatClampNeg) = 0 →
      gw_X12_worlds (d + 1) Q 4 [some (.ref 160), some (.int (x1 + 1)), some (.int (x2 + 1))] [] I L P
    ))
  ))
set_option maxRecDepth 20000 in
theorem g_X12_worlds_4 {d : Nat} {Q : zQt} {x1 : Int32} {x2 : Int32} {I : zI} {L : zL} {P : zP} (hP : zPk P) (hd : 1 ≤ d) (hv : v_X12_worlds_4 d Q x1 x2 I L P) : gw_X12_worlds (d + 1) Q 4 [some (.ref 160), some (.int x1), some (.int x2)] [] I L P := by
  unfold v_X12_worlds_4 at hv
  refine z_iload_n dX12_worlds_4 rfl ?_
  refine z_aload_n dX12_worlds_5 rfl ?_
  obtain ⟨h1, hv⟩ := hv
  refine z_callV (As := []) (st := [.int x2]) dX12_worlds_6 zl_X12_346 zv_X12_worldMany (by decide) rfl zn_160 zo_160 rfl rfl (Nat.le_of_ble_eq_true rfl) ⟨Nat.le_refl _, Nat.le_refl _⟩ ⟨Nat.le_refl _, Nat.le_refl _⟩ (sp_X12_worldMany hP h1 (by omega) (K := fun r I' L' P' => nI (vN I) = r ∧ I = I' ∧ L = L' ∧ P = P') ⟨rfl, rfl, rfl, rfl⟩) (fun v1 I2 L2 P2 nx1 q3 => ?_)
  obtain ⟨rfl, r2, rfl, rfl, rfl, rfl, rfl⟩ := q3
  refine z_icmp_ge (tgt := 35) dX12_worlds_9 (by decide) (fun q4 => ?_) (fun q4 => ?_)
  · have hv := hv.1 q4
    refine z_iload_n dX12_worlds_35 rfl ?_
    exact z_ireturn dX12_worlds_36 rfl rfl (Nat.le_refl _) (Nat.le_refl _) hv
  · have hv := hv.2 q4
    refine z_iload_n dX12_worlds_12 rfl ?_
    refine z_aload_n dX12_worlds_13 rfl ?_
    refine z_getP dX12_worlds_14 zf_X12_74 zn_160 zo_160 (fun _ _ _ _ _ => rfl) (hP 160 35 180 zp_160_35) ?_
    refine z_iload_n dX12_worlds_17 rfl ?_
    obtain ⟨h5, hv⟩ := hv
    refine z_zaload dX12_worlds_18 zn_180 zh_180 h5 ?_
    refine z_if_eq (tgt := 26) dX12_worlds_19 (by decide) (fun q6 => ?_) (fun q6 => ?_)
    · have hv := hv.1 q6
      refine z_iconst (v := 0) dX12_worlds_26 (by decide) ?_
      refine z_iadd dX12_worlds_27 ?_
      refine z_istore_n (lv2 := [some (.ref 160), some (.int (x1 + 0)), some (.int x2)]) dX12_worlds_28 (by decide) rfl rfl ?_
      refine z_iinc (v2 := x2 + 1) (lv2 := [some (.ref 160), some (.int (x1 + 0)), some (.int (x2 + 1))]) dX12_worlds_29 rfl (by rfl) (by decide) rfl rfl ?_
      refine z_goto (tgt := 4) dX12_worlds_32 (by decide) ?_
      exact hv
    · have hv := hv.2 q6
      refine z_iconst (v := 1) dX12_worlds_22 (by decide) ?_
      refine z_goto (tgt := 27) dX12_worlds_23 (by decide) ?_
      refine z_iadd dX12_worlds_27 ?_
      refine z_istore_n (lv2 := [some (.ref 160), some (.int (x1 + 1)), some (.int x2)]) dX12_worlds_28 (by decide) rfl rfl ?_
      refine z_iinc (v2 := x2 + 1) (lv2 := [some (.ref 160), some (.int (x1 + 1)), some (.int (x2 + 1))]) dX12_worlds_29 rfl (by rfl) (by decide) rfl rfl ?_
      refine z_goto (tgt := 4) dX12_worlds_32 (by decide) ?_
      exact hv
abbrev v_X12_worlds (d : Nat) (Q : zQt)  (I : zI) (L : zL) (P : zP) : Prop :=
  gw_X12_worlds (d + 1) Q 4 [some (.ref 160), some (.int 0), some (.int 0)] [] I L P
set_option maxRecDepth 20000 in
theorem g_X12_worlds {d : Nat} {Q : zQt}  {I : zI} {L : zL} {P : zP} (hP : zPk P) (hd : 1 ≤ d) (hv : v_X12_worlds d Q  I L P) : zM zm_X12_worlds (d + 1) 0 0 [.ref 160] I L P 205 Q := by
  unfold v_X12_worlds at hv
  refine zM_of (lv0 := [some (.ref 160), none, none]) (by decide +kernel) (Nat.le_of_ble_eq_true rfl) rfl ?_
  refine z_iconst (v := 0) dX12_worlds_0 (by decide) ?_
  refine z_istore_n (lv2 := [some (.ref 160), some (.int 0), none]) dX12_worlds_1 (by decide) rfl rfl ?_
  refine z_iconst (v := 0) dX12_worlds_2 (by decide) ?_
  refine z_istore_n (lv2 := [some (.ref 160), some (.int 0), some (.int 0)]) dX12_worlds_3 (by decide) rfl rfl ?_
  exact hv
theorem lp_X12_worlds {d : Nat} {Q : zQt} {I : zI} {L : zL} {P : zP} (hP : zPk P) (hB : MB I) (hd : 1 ≤ d) (k : Q (some (.int (nI (cP (vPoss I) (vN I))))) I L P 205) :
    ∀ n i, i + n = vN I → gw_X12_worlds (d + 1) Q 4 [some (.ref 160), some (.int (nI (cP (vPoss I) i))), some (.int (nI i))] [] I L P := by
  have hN := vN_le hB
  intro n
  induction n with
  | zero =>
    intro i hi
    have : i = vN I := by omega
    subst this
    exact g_X12_worlds_4 hP (by omega) ⟨hB, fun _ => k, fun q => absurd (nI_le (Nat.le_refl _) (by omega)) q⟩
  | succ n ih =>
    intro i hi
    refine g_X12_worlds_4 hP (by omega) ⟨hB, fun q => absurd q (nI_ge (by omega) (by omega)), fun _ => ⟨nx_in (by omega) (by decide), fun q => ?_, fun q => ?_⟩⟩
    · rw [nI_cl (by omega)] at q
      rw [nI_1, show (nI (cP (vPoss I) i) + 0 : Int32) = nI (cP (vPoss I) (i + 1)) by rw [cP_f (fun h => h q)]; simp]
      exact ih (i + 1) (by omega)
    · rw [nI_cl (by omega)] at q
      rw [nI_1, nI_1, ← cP_t (f := vPoss I) q]
      exact ih (i + 1) (by omega)
theorem sp_X12_worlds {d : Nat} {I : zI} {L : zL} {P : zP} (hP : zPk P) (hB : MB I) (hd : 2 ≤ d) {K : Int32 → zI → zL → zP → Prop} (k : K (nI (cP (vPoss I) (vN I))) I L P) : zMi zm_X12_worlds d [.ref 160] I L P K := by
  obtain ⟨d, rfl⟩ : ∃ e, d = e + 1 := ⟨d - 1, by omega⟩
  exact g_X12_worlds hP (by omega) (lp_X12_worlds hP hB (by omega) (qi k) (vN I) 0 (by omega))
abbrev gw_X12_possible (d : Nat) (Q : zQt) (pc : Nat) (lv : zV) (st : List Value) (I : zI) (L : zL) (P : zP) : Prop := zW zm_X12_possible (zRm d 0 0) 0 0 Q pc lv st I L P 205 0 0
abbrev v_X12_possible (d : Nat) (Q : zQt) (p1 : Int32) (I : zI) (L : zL) (P : zP) : Prop :=
  MB I ∧
  ((¬ (bP (vp_in p1 (vN I))) = 0 →
    vp_in p1 256 ∧
    (((I 180 p1.toNatClampNeg) = 0 →
      Q (some (.int 0)) I L P 205
    ) ∧ (¬ (I 180 p1.toNatClampNeg) = 0 →
      Q (some (.int 1)) I L P 205
    ))
  ) ∧ ((bP (vp_in p1 (vN I))) = 0 →
    Q (some (.int (-1))) I L P 205
  ))
set_option maxRecDepth 20000 in
theorem g_X12_possible {d : Nat} {Q : zQt} {p1 : Int32} {I : zI} {L : zL} {P : zP} (hP : zPk P) (hd : 2 ≤ d) (hv : v_X12_possible d Q p1 I L P) : zM zm_X12_possible (d + 1) 0 0 [.ref 160, .int p1] I L P 205 Q := by
  unfold v_X12_possible at hv
  refine zM_of (lv0 := [some (.ref 160), some (.int p1)]) (by decide +kernel) (Nat.le_of_ble_eq_true rfl) rfl ?_
  refine z_aload_n dX12_possible_0 rfl ?_
  refine z_iload_n dX12_possible_1 rfl ?_
  obtain ⟨h1, hv⟩ := hv
  refine z_callV (As := [.int p1]) (st := []) dX12_possible_2 zl_X12_368 zv_X12_isWorld (by decide) rfl zn_160 zo_160 rfl rfl (Nat.le_of_ble_eq_true rfl) ⟨Nat.le_refl _, Nat.le_refl _⟩ ⟨Nat.le_refl _, Nat.le_refl _⟩ (sp_X12_isWorld hP h1 (by omega) (K := fun r I' L' P' => bP (vp_in p1 (vN I)) = r ∧ I = I' ∧ L = L' ∧ P = P') ⟨rfl, rfl, rfl, rfl⟩) (fun v1 I2 L2 P2 nx1 q3 => ?_)
  obtain ⟨rfl, r2, rfl, rfl, rfl, rfl, rfl⟩ := q3
  refine z_if_ne (tgt := 12) dX12_possible_5 (by decide) (fun q4 => ?_) (fun q4 => ?_)
  · have hv := hv.1 q4
    refine z_aload_n dX12_possible_12 rfl ?_
    refine z_getP dX12_possible_13 zf_X12_74 zn_160 zo_160 (fun _ _ _ _ _ => rfl) (hP 160 35 180 zp_160_35) ?_
    refine z_iload_n dX12_possible_16 rfl ?_
    obtain ⟨h5, hv⟩ := hv
    refine z_zaload dX12_possible_17 zn_180 zh_180 h5 ?_
    refine z_if_eq (tgt := 25) dX12_possible_18 (by decide) (fun q6 => ?_) (fun q6 => ?_)
    · have hv := hv.1 q6
      refine z_iconst (v := 0) dX12_possible_25 (by decide) ?_
      exact z_ireturn dX12_possible_26 rfl rfl (Nat.le_refl _) (Nat.le_refl _) hv
    · have hv := hv.2 q6
      refine z_iconst (v := 1) dX12_possible_21 (by decide) ?_
      refine z_goto (tgt := 26) dX12_possible_22 (by decide) ?_
      exact z_ireturn dX12_possible_26 rfl rfl (Nat.le_refl _) (Nat.le_refl _) hv
  · have hv := hv.2 q4
    refine z_iconst (v := (-1)) dX12_possible_8 (by decide) ?_
    refine z_goto (tgt := 26) dX12_possible_9 (by decide) ?_
    exact z_ireturn dX12_possible_26 rfl rfl (Nat.le_refl _) (Nat.le_refl _) hv
theorem sp_X12_possible {d : Nat} {I : zI} {L : zL} {P : zP} {w : Int32} (hP : zPk P) (hB : MB I) (hd : 3 ≤ d) {K : Int32 → zI → zL → zP → Prop} (k0 : ¬ vp_in w (vN I) → K (-1) I L P) (k : ∀ v, v < vN I → w = nI v → K (bP (vPoss I v)) I L P) : zMi zm_X12_possible d [.ref 160, .int w] I L P K := by
  obtain ⟨d, rfl⟩ : ∃ e, d = e + 1 := ⟨d - 1, by omega⟩
  have hN := vN_le hB
  refine g_X12_possible hP (by omega) ⟨hB, fun q => ?_, fun q => qi (k0 (bP_0.mp q))⟩
  rw [bP_n] at q
  obtain ⟨v, hv, rfl⟩ := vp_nI q (by omega)
  refine ⟨nx_in (by omega) (by decide), fun q2 => qi ?_, fun q2 => qi ?_⟩
  · rw [nI_cl (by omega)] at q2
    have := k v hv rfl
    rwa [bP_f (fun h => h q2)] at this
  · rw [nI_cl (by omega)] at q2
    have := k v hv rfl
    rwa [bP_t (p := vPoss I v) q2] at this
abbrev gw_X12_sees (d : Nat) (Q : zQt) (pc : Nat) (lv : zV) (st : List Value) (I : zI) (L : zL) (P : zP) : Prop := zW zm_X12_sees (zRm d 0 0) 0 0 Q pc lv st I L P 205 0 0
abbrev v_X12_sees (d : Nat) (Q : zQt) (p1 : Int32) (I : zI) (L : zL) (P : zP) : Prop :=
  MB I ∧
  (((bP (vp_in p1 (vNp I))) = 0 →
    Q (some (.int (-1))) I L P 205
  ) ∧ (¬ (bP (vp_in p1 (vNp I))) = 0 →
    zMi zm_X12_seesOf d [.ref 160, .int p1] I L P (fun r9 I5 L6 P7 =>
      Q (some (.int r9)) I5 L6 P7 205
    )
  ))
set_option maxRecDepth 20000 in
theorem g_X12_sees {d : Nat} {Q : zQt} {p1 : Int32} {I : zI} {L : zL} {P : zP} (hP : zPk P) (hd : 1 ≤ d) (hv : v_X12_sees d Q p1 I L P) : zM zm_X12_sees (d + 1) 0 0 [.ref 160, .int p1] I L P 205 Q := by
  unfold v_X12_sees at hv
  refine zM_of (lv0 := [some (.ref 160), some (.int p1)]) (by decide +kernel) (Nat.le_of_ble_eq_true rfl) rfl ?_
  refine z_aload_n dX12_sees_0 rfl ?_
  refine z_iload_n dX12_sees_1 rfl ?_
  obtain ⟨h1, hv⟩ := hv
  refine z_callV (As := [.int p1]) (st := []) dX12_sees_2 zl_X12_365 zv_X12_isOne (by decide) rfl zn_160 zo_160 rfl rfl (Nat.le_of_ble_eq_true rfl) ⟨Nat.le_refl _, Nat.le_refl _⟩ ⟨Nat.le_refl _, Nat.le_refl _⟩ (sp_X12_isOne hP h1 (by omega) (K := fun r I' L' P' => bP (vp_in p1 (vNp I)) = r ∧ I = I' ∧ L = L' ∧ P = P') ⟨rfl, rfl, rfl, rfl⟩) (fun v1 I2 L2 P2 nx1 q3 => ?_)
  obtain ⟨rfl, r2, rfl, rfl, rfl, rfl, rfl⟩ := q3
  refine z_if_eq (tgt := 16) dX12_sees_5 (by decide) (fun q4 => ?_) (fun q4 => ?_)
  · have hv := hv.1 q4
    refine z_iconst (v := (-1)) dX12_sees_16 (by decide) ?_
    exact z_ireturn dX12_sees_17 rfl rfl (Nat.le_refl _) (Nat.le_refl _) hv
  · have hv := hv.2 q4
    refine z_aload_n dX12_sees_8 rfl ?_
    refine z_iload_n dX12_sees_9 rfl ?_
    refine z_callV (As := [.int p1]) (st := []) dX12_sees_10 zl_X12_362 zv_X12_seesOf (by decide) rfl zn_160 zo_160 rfl rfl (Nat.le_of_ble_eq_true rfl) ⟨Nat.le_refl _, Nat.le_refl _⟩ ⟨Nat.le_refl _, Nat.le_refl _⟩ hv (fun v1 I5 L6 P7 nx1 q8 => ?_)
    obtain ⟨rfl, r9, rfl, hv⟩ := q8
    refine z_goto (tgt := 17) dX12_sees_13 (by decide) ?_
    exact z_ireturn dX12_sees_17 rfl rfl (Nat.le_refl _) (Nat.le_refl _) hv
theorem sp_X12_sees {d : Nat} {I : zI} {L : zL} {P : zP} {p : Int32} (hP : zPk P) (hB : MB I) (hS : MS I) (hd : 3 ≤ d) {K : Int32 → zI → zL → zP → Prop} (k0 : ¬ vp_in p (vNp I) → K (-1) I L P) (k : ∀ v, v < vNp I → p = nI v → K (nI (vSee I v)) I L P) : zMi zm_X12_sees d [.ref 160, .int p] I L P K := by
  obtain ⟨d, rfl⟩ : ∃ e, d = e + 1 := ⟨d - 1, by omega⟩
  have hN := hB.2.1
  refine g_X12_sees hP (by omega) ⟨hB, fun q => qi (k0 (bP_0.mp q)), fun q => ?_⟩
  rw [bP_n] at q
  obtain ⟨v, hv, rfl⟩ := vp_nI q (by omega)
  exact sp_X12_seesOf hP hB hS hv (by omega) (qi (k v hv rfl))
abbrev gw_X12_like (d : Nat) (Q : zQt) (pc : Nat) (lv : zV) (st : List Value) (I : zI) (L : zL) (P : zP) : Prop := zW zm_X12_like (zRm d 0 0) 0 0 Q pc lv st I L P 205 0 0
abbrev v_X12_like (d : Nat) (Q : zQt) (p1 : Int32) (p2 : Int32) (p3 : Int32) (I : zI) (L : zL) (P : zP) : Prop :=
  MB I ∧
  (((bP (vp_in p1 (vNp I))) = 0 →
    Q (some (.int (-1))) I L P 205
  ) ∧ (¬ (bP (vp_in p1 (vNp I))) = 0 →
    (((bP (vp_in p2 (vN I))) = 0 →
      Q (some (.int (-1))) I L P 205
    ) ∧ (¬ (bP (vp_in p2 (vN I))) = 0 →
      (((bP (vp_in p3 (vN I))) = 0 →
        Q (some (.int (-1))) I L P 205
      ) ∧ (¬ (bP (vp_in p3 (vN I))) = 0 →
        vp_in p2 256 ∧
        (((I 180 p2.toNatClampNeg) = 0 →
          Q (some (.int (-1))) I L P 205
        ) ∧ (¬ (I 180 p2.toNatClampNeg) = 0 →
          vp_in p3 256 ∧
          ((¬ (I 180 p3.toNatClampNeg) = 0 →
            zMi zm_X12_areLike d [.ref 160, .int p1, .int p2, .int p3] I L P (fun r19 I15 L16 P17 =>
              ((r19 = 0 →
                Q (some (.int 0)) I15 L16 P17 205
              ) ∧ (¬ r19 = 0 →
                Q (some (.int 1)) I15 L16 P17 205
              ))
            )
          ) ∧ ((I 180 p3.toNatClampNeg) = 0 →
            Q (some (.int (-1))) I L P 205
          ))
        ))
      ))
    ))
  ))
set_option maxRecDepth 20000 in
theorem g_X12_like {d : Nat} {Q : zQt} {p1 : Int32} {p2 : Int32} {p3 : Int32} {I : zI} {L : zL} {P : zP} (hP : zPk P) (hd : 2 ≤ d) (hv : v_X12_like d Q p1 p2 p3 I L P) : zM zm_X12_like (d + 1) 0 0 [.ref 160, .int p1, .int p2, .int p3] I L P 205 Q := by
  unfold v_X12_like at hv
  refine zM_of (lv0 := [some (.ref 160), some (.int p1), some (.int p2), some (.int p3)]) (by decide +kernel) (Nat.le_of_ble_eq_true rfl) rfl ?_
  refine z_aload_n dX12_like_0 rfl ?_
  refine z_iload_n dX12_like_1 rfl ?_
  obtain ⟨h1, hv⟩ := hv
  refine z_callV (As := [.int p1]) (st := []) dX12_like_2 zl_X12_365 zv_X12_isOne (by decide) rfl zn_160 zo_160 rfl rfl (Nat.le_of_ble_eq_true rfl) ⟨Nat.le_refl _, Nat.le_refl _⟩ ⟨Nat.le_refl _, Nat.le_refl _⟩ (sp_X12_isOne hP h1 (by omega) (K := fun r I' L' P' => bP (vp_in p1 (vNp I)) = r ∧ I = I' ∧ L = L' ∧ P = P') ⟨rfl, rfl, rfl, rfl⟩) (fun v1 I2 L2 P2 nx1 q3 => ?_)
  obtain ⟨rfl, r2, rfl, rfl, rfl, rfl, rfl⟩ := q3
  refine z_if_eq (tgt := 42) dX12_like_5 (by decide) (fun q4 => ?_) (fun q4 => ?_)
  · have hv := hv.1 q4
    refine z_iconst (v := (-1)) dX12_like_42 (by decide) ?_
    refine z_goto (tgt := 61) dX12_like_43 (by decide) ?_
    exact z_ireturn dX12_like_61 rfl rfl (Nat.le_refl _) (Nat.le_refl _) hv
  · have hv := hv.2 q4
    refine z_aload_n dX12_like_8 rfl ?_
    refine z_iload_n dX12_like_9 rfl ?_
    refine z_callV (As := [.int p2]) (st := []) dX12_like_10 zl_X12_368 zv_X12_isWorld (by decide) rfl zn_160 zo_160 rfl rfl (Nat.le_of_ble_eq_true rfl) ⟨Nat.le_refl _, Nat.le_refl _⟩ ⟨Nat.le_refl _, Nat.le_refl _⟩ (sp_X12_isWorld hP h1 (by omega) (K := fun r I' L' P' => bP (vp_in p2 (vN I)) = r ∧ I = I' ∧ L = L' ∧ P = P') ⟨rfl, rfl, rfl, rfl⟩) (fun v1 I2 L2 P2 nx1 q6 => ?_)
    obtain ⟨rfl, r5, rfl, rfl, rfl, rfl, rfl⟩ := q6
    refine z_if_eq (tgt := 42) dX12_like_13 (by decide) (fun q7 => ?_) (fun q7 => ?_)
    · have hv := hv.1 q7
      refine z_iconst (v := (-1)) dX12_like_42 (by decide) ?_
      refine z_goto (tgt := 61) dX12_like_43 (by decide) ?_
      exact z_ireturn dX12_like_61 rfl rfl (Nat.le_refl _) (Nat.le_refl _) hv
    · have hv := hv.2 q7
      refine z_aload_n dX12_like_16 rfl ?_
      refine z_iload_n dX12_like_17 rfl ?_
      refine z_callV (As := [.int p3]) (st := []) dX12_like_18 zl_X12_368 zv_X12_isWorld (by decide) rfl zn_160 zo_160 rfl rfl (Nat.le_of_ble_eq_true rfl) ⟨Nat.le_refl _, Nat.le_refl _⟩ ⟨Nat.le_refl _, Nat.le_refl _⟩ (sp_X12_isWorld hP h1 (by omega) (K := fun r I' L' P' => bP (vp_in p3 (vN I)) = r ∧ I = I' ∧ L = L' ∧ P = P') ⟨rfl, rfl, rfl, rfl⟩) (fun v1 I2 L2 P2 nx1 q9 => ?_)
      obtain ⟨rfl, r8, rfl, rfl, rfl, rfl, rfl⟩ := q9
      refine z_if_eq (tgt := 42) dX12_like_21 (by decide) (fun q10 => ?_) (fun q10 => ?_)
      · have hv := hv.1 q10
        refine z_iconst (v := (-1)) dX12_like_42 (by decide) ?_
        refine z_goto (tgt := 61) dX12_like_43 (by decide) ?_
        exact z_ireturn dX12_like_61 rfl rfl (Nat.le_refl _) (Nat.le_refl _) hv
      · have hv := hv.2 q10
        refine z_aload_n dX12_like_24 rfl ?_
        refine z_getP dX12_like_25 zf_X12_74 zn_160 zo_160 (fun _ _ _ _ _ => rfl) (hP 160 35 180 zp_160_35) ?_
        refine z_iload_n dX12_like_28 rfl ?_
        obtain ⟨h11, hv⟩ := hv
        refine z_zaload dX12_like_29 zn_180 zh_180 h11 ?_
        refine z_if_eq (tgt := 42) dX12_like_30 (by decide) (fun q12 => ?_) (fun q12 => ?_)
        · have hv := hv.1 q12
          refine z_iconst (v := (-1)) dX12_like_42 (by decide) ?_
          refine z_goto (tgt := 61) dX12_like_43 (by decide) ?_
          exact z_ireturn dX12_like_61 rfl rfl (Nat.le_refl _) (Nat.le_refl _) hv
        · have hv := hv.2 q12
          refine z_aload_n dX12_like_33 rfl ?_
          refine z_getP dX12_like_34 zf_X12_74 zn_160 zo_160 (fun _ _ _ _ _ => rfl) (hP 160 35 180 zp_160_35) ?_
          refine z_iload_n dX12_like_37 rfl ?_
          obtain ⟨h13, hv⟩ := hv
          refine z_zaload dX12_like_38 zn_180 zh_180 h13 ?_
          refine z_if_ne (tgt := 46) dX12_like_39 (by decide) (fun q14 => ?_) (fun q14 => ?_)
          · have hv := hv.1 q14
            refine z_aload_n dX12_like_46 rfl ?_
            refine z_iload_n dX12_like_47 rfl ?_
            refine z_iload_n dX12_like_48 rfl ?_
            refine z_iload_n dX12_like_49 rfl ?_
            refine z_callV (As := [.int p1, .int p2, .int p3]) (st := []) dX12_like_50 zl_X12_371 zv_X12_areLike (by decide) rfl zn_160 zo_160 rfl rfl (Nat.le_of_ble_eq_true rfl) ⟨Nat.le_refl _, Nat.le_refl _⟩ ⟨Nat.le_refl _, Nat.le_refl _⟩ hv (fun v1 I15 L16 P17 nx1 q18 => ?_)
            obtain ⟨rfl, r19, rfl, hv⟩ := q18
            refine z_if_eq (tgt := 60) dX12_like_53 (by decide) (fun q20 => ?_) (fun q20 => ?_)
            · have hv := hv.1 q20
              refine z_iconst (v := 0) dX12_like_60 (by decide) ?_
              exact z_ireturn dX12_like_61 rfl rfl (Nat.le_refl _) (Nat.le_refl _) hv
            · have hv := hv.2 q20
              refine z_iconst (v := 1) dX12_like_56 (by decide) ?_
              refine z_goto (tgt := 61) dX12_like_57 (by decide) ?_
              exact z_ireturn dX12_like_61 rfl rfl (Nat.le_refl _) (Nat.le_refl _) hv
          · have hv := hv.2 q14
            refine z_iconst (v := (-1)) dX12_like_42 (by decide) ?_
            refine z_goto (tgt := 61) dX12_like_43 (by decide) ?_
            exact z_ireturn dX12_like_61 rfl rfl (Nat.le_refl _) (Nat.le_refl _) hv
theorem sp_X12_like {d : Nat} {I : zI} {L : zL} {P : zP} {p a b : Int32} (hP : zPk P) (hE : ME I) (hd : 4 ≤ d) {K : Int32 → zI → zL → zP → Prop}
    (k0 : ¬ (vp_in p (vNp I) ∧ (∃ v, v < vN I ∧ a = nI v ∧ vPoss I v) ∧ ∃ v, v < vN I ∧ b = nI v ∧ vPoss I v) → K (-1) I L P)
    (k : ∀ q v u, q < vNp I → v < vN I → u < vN I → p = nI q → a = nI v → b = nI u → vPoss I v → vPoss I u → K (bP (vLike I q v u)) I L P) : zMi zm_X12_like d [.ref 160, .int p, .int a, .int b] I L P K := by
  obtain ⟨d, rfl⟩ : ∃ e, d = e + 1 := ⟨d - 1, by omega⟩
  have hN := vN_le hE.1
  have hn := hE.1.2.1
  have no : ∀ z : Int32, ¬ vp_in z (vN I) → ¬ ∃ v, v < vN I ∧ z = nI v ∧ vPoss I v := by
    rintro z hz ⟨v, h1, rfl, -⟩
    exact hz (nx_in h1 (by omega))
  refine g_X12_like hP (by omega) ⟨hE.1, fun q => qi (k0 (fun h => bP_0.mp q h.1)), fun q => ⟨fun q1 => qi (k0 (fun h => no a (bP_0.mp q1) h.2.1)), fun q1 => ⟨fun q2 => qi (k0 (fun h => no b (bP_0.mp q2) h.2.2)), fun q2 => ?_⟩⟩⟩
  rw [bP_n] at q q1 q2
  obtain ⟨p, hp, rfl⟩ := vp_nI q (by omega)
  obtain ⟨a, ha, rfl⟩ := vp_nI q1 (by omega)
  obtain ⟨b, hb, rfl⟩ := vp_nI q2 (by omega)
  have ca : (nI a).toNatClampNeg = a := nI_cl (by omega)
  have cb : (nI b).toNatClampNeg = b := nI_cl (by omega)
  refine ⟨nx_in (by omega) (by decide), fun q3 => qi (k0 ?_), fun q3 => ⟨nx_in (by omega) (by decide), fun q4 => ?_, fun q4 => qi (k0 ?_)⟩⟩
  · rw [ca] at q3
    rintro ⟨-, ⟨v, h1, h2, h3⟩, -⟩
    have : a = v := (nI_eq (by omega) (by omega)).mp h2
    subst this; exact h3 q3
  · rw [ca] at q3
    rw [cb] at q4
    refine sp_X12_areLike hP hE.1 hE.2.1 hE.2.2 hp (by omega) (by omega) (by omega) ⟨fun q5 => qi ?_, fun q5 => qi ?_⟩
    · have := k p a b hp ha hb rfl rfl rfl q3 q4
      rwa [q5] at this
    · have := k p a b hp ha hb rfl rfl rfl q3 q4
      rw [bP_n] at q5
      rwa [bP_t q5] at this
  · rw [cb] at q4
    rintro ⟨-, -, ⟨v, h1, h2, h3⟩⟩
    have : b = v := (nI_eq (by omega) (by omega)).mp h2
    subst this; exact h3 q4
abbrev gw_X12_own (d : Nat) (Q : zQt) (pc : Nat) (lv : zV) (st : List Value) (I : zI) (L : zL) (P : zP) : Prop := zW zm_X12_own (zRm d 0 0) 0 0 Q pc lv st I L P 205 0 0
abbrev v_X12_own_91 (d : Nat) (Q : zQt) (p1 : Int32) (x2 : Int32) (x4 : Int32) (t0 : Int32) (I : zI) (L : zL) (P : zP) : Prop :=
  gw_X12_own (d + 1) Q 17 [some (.ref 160), some (.int p1), some (.int x2), some (.int t0), some (.int (x4 + 1))] [] I L P
set_option maxRecDepth 20000 in
theorem g_X12_own_91 {d : Nat} {Q : zQt} {p1 : Int32} {x2 : Int32} {x4 : Int32} {t0 : Int32} {I : zI} {L : zL} {P : zP} (hP : zPk P) (hd : 1 ≤ d) (hv : v_X12_own_91 d Q p1 x2 x4 t0 I L P) : gw_X12_own (d + 1) Q 91 [some (.ref 160), some (.int p1), some (.int x2), none, some (.int x4)] [.int t0] I L P := by
  unfold v_X12_own_91 at hv
  refine z_istore_n (lv2 := [some (.ref 160), some (.int p1), some (.int x2), some (.int t0), some (.int x4)]) dX12_own_91 (by decide) rfl rfl ?_
  refine z_iinc (v2 := x4 + 1) (lv2 := [some (.ref 160), some (.int p1), some (.int x2), some (.int t0), some (.int (x4 + 1))]) dX12_own_92 rfl (by rfl) (by decide) rfl rfl ?_
  refine z_goto (tgt := 17) dX12_own_95 (by decide) ?_
  exact hv
abbrev v_X12_own_72 (d : Nat) (Q : zQt) (p1 : Int32) (x3 : Int32) (x4 : Int32) (t0 : Int32) (I : zI) (L : zL) (P : zP) : Prop :=
  ((x3 = 0 →
    gw_X12_own (d + 1) Q 91 [some (.ref 160), some (.int p1), some (.int t0), none, some (.int x4)] [.int 0] I L P
  ) ∧ (¬ x3 = 0 →
    ((¬ ((x4 >>> (p1 &&& 31) : Int32) &&& 1 : Int32) = 0 →
      gw_X12_own (d + 1) Q 91 [some (.ref 160), some (.int p1), some (.int t0), none, some (.int x4)] [.int 0] I L P
    ) ∧ (((x4 >>> (p1 &&& 31) : Int32) &&& 1 : Int32) = 0 →
      gw_X12_own (d + 1) Q 91 [some (.ref 160), some (.int p1), some (.int t0), none, some (.int x4)] [.int 1] I L P
    ))
  ))
set_option maxRecDepth 20000 in
theorem g_X12_own_72 {d : Nat} {Q : zQt} {p1 : Int32} {x3 : Int32} {x4 : Int32} {t0 : Int32} {I : zI} {L : zL} {P : zP} (hP : zPk P) (hd : 1 ≤ d) (hv : v_X12_own_72 d Q p1 x3 x4 t0 I L P) : gw_X12_own (d + 1) Q 72 [some (.ref 160), some (.int p1), none, some (.int x3), some (.int x4)] [.int t0] I L P := by
  unfold v_X12_own_72 at hv
  refine z_istore_n (lv2 := [some (.ref 160), some (.int p1), some (.int t0), some (.int x3), some (.int x4)]) dX12_own_72 (by decide) rfl rfl ?_
  refine z_iload_n dX12_own_73 rfl ?_
  refine z_if_eq (tgt := 90) dX12_own_74 (by decide) (fun q24 => ?_) (fun q24 => ?_)
  · have hv := hv.1 q24
    refine z_iconst (v := 0) dX12_own_90 (by decide) ?_
    exact z_sub (by exact ⟨rfl, ⟨rfl, ⟨rfl, ⟨rfl, trivial⟩⟩⟩⟩) hv
  · have hv := hv.2 q24
    refine z_iload dX12_own_77 rfl ?_
    refine z_iload_n dX12_own_79 rfl ?_
    refine z_ishr dX12_own_80 ?_
    refine z_iconst (v := 1) dX12_own_81 (by decide) ?_
    refine z_iand dX12_own_82 ?_
    refine z_if_ne (tgt := 90) dX12_own_83 (by decide) (fun q25 => ?_) (fun q25 => ?_)
    · have hv := hv.1 q25
      refine z_iconst (v := 0) dX12_own_90 (by decide) ?_
      exact z_sub (by exact ⟨rfl, ⟨rfl, ⟨rfl, ⟨rfl, trivial⟩⟩⟩⟩) hv
    · have hv := hv.2 q25
      refine z_iconst (v := 1) dX12_own_86 (by decide) ?_
      refine z_goto (tgt := 91) dX12_own_87 (by decide) ?_
      exact z_sub (by exact ⟨rfl, ⟨rfl, ⟨rfl, ⟨rfl, trivial⟩⟩⟩⟩) hv
abbrev v_X12_own_17 (d : Nat) (Q : zQt) (p1 : Int32) (x2 : Int32) (x3 : Int32) (x4 : Int32) (I : zI) (L : zL) (P : zP) : Prop :=
  MB I ∧
  (((nI (vN I)) ≤ x4 →
    ((x2 = 0 →
      ((x3 = 0 →
        Q (some (.int (-2))) I L P 205
      ) ∧ (¬ x3 = 0 →
        Q (some (.int 0)) I L P 205
      ))
    ) ∧ (¬ x2 = 0 →
      Q (some (.int 1)) I L P 205
    ))
  ) ∧ (¬ (nI (vN I)) ≤ x4 →
    vp_in x4 256 ∧
    (((I 180 x4.toNatClampNeg) = 0 →
      gw_X12_own (d + 1) Q 17 [some (.ref 160), some (.int p1), some (.int x2), some (.int x3), some (.int (x4 + 1))] [] I L P
    ) ∧ (¬ (I 180 x4.toNatClampNeg) = 0 →
      MT I ∧
      zMi zm_X12_areLike d [.ref 160, .int p1, .int (nI (vTw I)), .int x4] I L P (fun r20 I16 L17 P18 =>
        ((¬ r20 = 0 →
          ((x2 = 0 →
            gw_X12_own (d + 1) Q 72 [some (.ref 160), some (.int p1), none, some (.int x3), some (.int x4)] [.int 0] I16 L17 P18
          ) ∧ (¬ x2 = 0 →
            ((¬ ((x4 >>> (p1 &&& 31) : Int32) &&& 1 : Int32) = 1 →
              gw_X12_own (d + 1) Q 72 [some (.ref 160), some (.int p1), none, some (.int x3), some (.int x4)] [.int 0] I16 L17 P18
            ) ∧ (((x4 >>> (p1 &&& 31) : Int32) &&& 1 : Int32) = 1 →
              gw_X12_own (d + 1) Q 72 [some (.ref 160), some (.int p1), none, some (.int x3), some (.int x4)] [.int 1] I16 L17 P18
            ))
          ))
        ) ∧ (r20 = 0 →
          gw_X12_own (d + 1) Q 17 [some (.ref 160), some (.int p1), some (.int x2), some (.int x3), some (.int (x4 + 1))] [] I16 L17 P18
        ))
      )
    ))
  ))
set_option maxRecDepth 20000 in
theorem g_X12_own_17 {d : Nat} {Q : zQt} {p1 : Int32} {x2 : Int32} {x3 : Int32} {x4 : Int32} {I : zI} {L : zL} {P : zP} (hP : zPk P) (hd : 1 ≤ d) (hv : v_X12_own_17 d Q p1 x2 x3 x4 I L P) : gw_X12_own (d + 1) Q 17 [some (.ref 160), some (.int p1), some (.int x2), some (.int x3), some (.int x4)] [] I L P := by
  unfold v_X12_own_17 at hv
  refine z_iload dX12_own_17 rfl ?_
  refine z_aload_n dX12_own_19 rfl ?_
  obtain ⟨h5, hv⟩ := hv
  refine z_callV (As := []) (st := [.int x4]) dX12_own_20 zl_X12_346 zv_X12_worldMany (by decide) rfl zn_160 zo_160 rfl rfl (Nat.le_of_ble_eq_true rfl) ⟨Nat.le_refl _, Nat.le_refl _⟩ ⟨Nat.le_refl _, Nat.le_refl _⟩ (sp_X12_worldMany hP h5 (by omega) (K := fun r I' L' P' => nI (vN I) = r ∧ I = I' ∧ L = L' ∧ P = P') ⟨rfl, rfl, rfl, rfl⟩) (fun v1 I2 L2 P2 nx1 q7 => ?_)
  obtain ⟨rfl, r6, rfl, rfl, rfl, rfl, rfl⟩ := q7
  refine z_icmp_ge (tgt := 98) dX12_own_23 (by decide) (fun q8 => ?_) (fun q8 => ?_)
  · have hv := hv.1 q8
    refine z_iload_n dX12_own_98 rfl ?_
    refine z_if_eq (tgt := 106) dX12_own_99 (by decide) (fun q9 => ?_) (fun q9 => ?_)
    · have hv := hv.1 q9
      refine z_iload_n dX12_own_106 rfl ?_
      refine z_if_eq (tgt := 114) dX12_own_107 (by decide) (fun q10 => ?_) (fun q10 => ?_)
      · have hv := hv.1 q10
        refine z_bipush (v := (-2)) dX12_own_114 (by decide) ?_
        exact z_ireturn dX12_own_116 rfl rfl (Nat.le_refl _) (Nat.le_refl _) hv
      · have hv := hv.2 q10
        refine z_iconst (v := 0) dX12_own_110 (by decide) ?_
        refine z_goto (tgt := 116) dX12_own_111 (by decide) ?_
        exact z_ireturn dX12_own_116 rfl rfl (Nat.le_refl _) (Nat.le_refl _) hv
    · have hv := hv.2 q9
      refine z_iconst (v := 1) dX12_own_102 (by decide) ?_
      refine z_goto (tgt := 116) dX12_own_103 (by decide) ?_
      exact z_ireturn dX12_own_116 rfl rfl (Nat.le_refl _) (Nat.le_refl _) hv
  · have hv := hv.2 q8
    refine z_aload_n dX12_own_26 rfl ?_
    refine z_getP dX12_own_27 zf_X12_74 zn_160 zo_160 (fun _ _ _ _ _ => rfl) (hP 160 35 180 zp_160_35) ?_
    refine z_iload dX12_own_30 rfl ?_
    obtain ⟨h11, hv⟩ := hv
    refine z_zaload dX12_own_32 zn_180 zh_180 h11 ?_
    refine z_if_eq (tgt := 92) dX12_own_33 (by decide) (fun q12 => ?_) (fun q12 => ?_)
    · have hv := hv.1 q12
      refine z_iinc (v2 := x4 + 1) (lv2 := [some (.ref 160), some (.int p1), some (.int x2), some (.int x3), some (.int (x4 + 1))]) dX12_own_92 rfl (by rfl) (by decide) rfl rfl ?_
      refine z_goto (tgt := 17) dX12_own_95 (by decide) ?_
      exact hv
    · have hv := hv.2 q12
      refine z_aload_n dX12_own_36 rfl ?_
      refine z_iload_n dX12_own_37 rfl ?_
      refine z_aload_n dX12_own_38 rfl ?_
      obtain ⟨h13, hv⟩ := hv
      refine z_callV (As := []) (st := [.int p1, .ref 160]) dX12_own_39 zl_X12_410 zv_X12_theTrue (by decide) rfl zn_160 zo_160 rfl rfl (Nat.le_of_ble_eq_true rfl) ⟨Nat.le_refl _, Nat.le_refl _⟩ ⟨Nat.le_refl _, Nat.le_refl _⟩ (sp_X12_theTrue hP h5 h13 (K := fun r I' L' P' => nI (vTw I) = r ∧ I = I' ∧ L = L' ∧ P = P') ⟨rfl, rfl, rfl, rfl⟩) (fun v1 I2 L2 P2 nx1 q15 => ?_)
      obtain ⟨rfl, r14, rfl, rfl, rfl, rfl, rfl⟩ := q15
      refine z_iload dX12_own_42 rfl ?_
      refine z_callV (As := [.int p1, .int (nI (vTw I)), .int x4]) (st := []) dX12_own_44 zl_X12_371 zv_X12_areLike (by decide) rfl zn_160 zo_160 rfl rfl (Nat.le_of_ble_eq_true rfl) ⟨Nat.le_refl _, Nat.le_refl _⟩ ⟨Nat.le_refl _, Nat.le_refl _⟩ hv (fun v1 I16 L17 P18 nx1 q19 => ?_)
      obtain ⟨rfl, r20, rfl, hv⟩ := q19
      refine z_if_ne (tgt := 53) dX12_own_47 (by decide) (fun q21 => ?_) (fun q21 => ?_)
      · have hv := hv.1 q21
        refine z_iload_n dX12_own_53 rfl ?_
        refine z_if_eq (tgt := 71) dX12_own_54 (by decide) (fun q22 => ?_) (fun q22 => ?_)
        · have hv := hv.1 q22
          refine z_iconst (v := 0) dX12_own_71 (by decide) ?_
          exact z_sub (by exact ⟨rfl, ⟨rfl, ⟨rfl, ⟨rfl, trivial⟩⟩⟩⟩) hv
        · have hv := hv.2 q22
          refine z_iload dX12_own_57 rfl ?_
          refine z_iload_n dX12_own_59 rfl ?_
          refine z_ishr dX12_own_60 ?_
          refine z_iconst (v := 1) dX12_own_61 (by decide) ?_
          refine z_iand dX12_own_62 ?_
          refine z_iconst (v := 1) dX12_own_63 (by decide) ?_
          refine z_icmp_ne (tgt := 71) dX12_own_64 (by decide) (fun q23 => ?_) (fun q23 => ?_)
          · have hv := hv.1 q23
            refine z_iconst (v := 0) dX12_own_71 (by decide) ?_
            exact z_sub (by exact ⟨rfl, ⟨rfl, ⟨rfl, ⟨rfl, trivial⟩⟩⟩⟩) hv
          · have hv := hv.2 q23
            refine z_iconst (v := 1) dX12_own_67 (by decide) ?_
            refine z_goto (tgt := 72) dX12_own_68 (by decide) ?_
            exact z_sub (by exact ⟨rfl, ⟨rfl, ⟨rfl, ⟨rfl, trivial⟩⟩⟩⟩) hv
      · have hv := hv.2 q21
        refine z_goto (tgt := 92) dX12_own_50 (by decide) ?_
        refine z_iinc (v2 := x4 + 1) (lv2 := [some (.ref 160), some (.int p1), some (.int x2), some (.int x3), some (.int (x4 + 1))]) dX12_own_92 rfl (by rfl) (by decide) rfl rfl ?_
        refine z_goto (tgt := 17) dX12_own_95 (by decide) ?_
        exact hv
abbrev v_X12_own (d : Nat) (Q : zQt) (p1 : Int32) (I : zI) (L : zL) (P : zP) : Prop :=
  MB I ∧
  ((¬ (bP (vp_in p1 (vNp I))) = 0 →
    gw_X12_own (d + 1) Q 17 [some (.ref 160), some (.int p1), some (.int 1), some (.int 1), some (.int 0)] [] I L P
  ) ∧ ((bP (vp_in p1 (vNp I))) = 0 →
    Q (some (.int (-1))) I L P 205
  ))
set_option maxRecDepth 20000 in
theorem g_X12_own {d : Nat} {Q : zQt} {p1 : Int32} {I : zI} {L : zL} {P : zP} (hP : zPk P) (hd : 1 ≤ d) (hv : v_X12_own d Q p1 I L P) : zM zm_X12_own (d + 1) 0 0 [.ref 160, .int p1] I L P 205 Q := by
  unfold v_X12_own at hv
  refine zM_of (lv0 := [some (.ref 160), some (.int p1), none, none, none]) (by decide +kernel) (Nat.le_of_ble_eq_true rfl) rfl ?_
  refine z_aload_n dX12_own_0 rfl ?_
  refine z_iload_n dX12_own_1 rfl ?_
  obtain ⟨h1, hv⟩ := hv
  refine z_callV (As := [.int p1]) (st := []) dX12_own_2 zl_X12_365 zv_X12_isOne (by decide) rfl zn_160 zo_160 rfl rfl (Nat.le_of_ble_eq_true rfl) ⟨Nat.le_refl _, Nat.le_refl _⟩ ⟨Nat.le_refl _, Nat.le_refl _⟩ (sp_X12_isOne hP h1 (by omega) (K := fun r I' L' P' => bP (vp_in p1 (vNp I)) = r ∧ I = I' ∧ L = L' ∧ P = P') ⟨rfl, rfl, rfl, rfl⟩) (fun v1 I2 L2 P2 nx1 q3 => ?_)
  obtain ⟨rfl, r2, rfl, rfl, rfl, rfl, rfl⟩ := q3
  refine z_if_ne (tgt := 10) dX12_own_5 (by decide) (fun q4 => ?_) (fun q4 => ?_)
  · have hv := hv.1 q4
    refine z_iconst (v := 1) dX12_own_10 (by decide) ?_
    refine z_istore_n (lv2 := [some (.ref 160), some (.int p1), some (.int 1), none, none]) dX12_own_11 (by decide) rfl rfl ?_
    refine z_iconst (v := 1) dX12_own_12 (by decide) ?_
    refine z_istore_n (lv2 := [some (.ref 160), some (.int p1), some (.int 1), some (.int 1), none]) dX12_own_13 (by decide) rfl rfl ?_
    refine z_iconst (v := 0) dX12_own_14 (by decide) ?_
    refine z_istore (lv2 := [some (.ref 160), some (.int p1), some (.int 1), some (.int 1), some (.int 0)]) dX12_own_15 (by decide) rfl rfl ?_
    exact hv
  · have hv := hv.2 q4
    refine z_iconst (v := (-1)) dX12_own_8 (by decide) ?_
    exact z_ireturn dX12_own_9 rfl rfl (Nat.le_refl _) (Nat.le_refl _) hv
theorem lp_X12_own {d : Nat} {Q : zQt} {I : zI} {L : zL} {P : zP} {p : Nat} (hP : zPk P) (hE : ME I) (hT : MT I) (hp : p < vNp I) (hd : 3 ≤ d)
    (k : Q (some (.int (@ite _ (sHas (vN I) (vPoss I) (vLike I p) p (vTw I) true) (Classical.propDecidable _) 1 (@ite _ (sHas (vN I) (vPoss I) (vLike I p) p (vTw I) false) (Classical.propDecidable _) 0 (-2))))) I L P 205) :
    ∀ n i x4 x5, i + n = vN I → x4 = bP (∀ v, v < i → vPoss I v → vLike I p (vTw I) v → v.testBit p = true) → x5 = bP (∀ v, v < i → vPoss I v → vLike I p (vTw I) v → v.testBit p = false) →
      gw_X12_own (d + 1) Q 17 [some (.ref 160), some (.int (nI p)), some (.int x4), some (.int x5), some (.int (nI i))] [] I L P := by
  have hN := vN_le hE.1
  have hnp := hE.1.2.1
  have ht := hT.1
  intro n
  induction n with
  | zero =>
    intro i x4 x5 hi e4 e5
    have hi2 : i = vN I := by omega
    subst hi2
    refine g_X12_own_17 hP (by omega) ⟨hE.1, fun _ => ⟨fun q => ⟨fun q2 => ?_, fun q2 => ?_⟩, fun q => ?_⟩, fun q => absurd (nI_le (Nat.le_refl _) (by omega)) q⟩
    · rw [e4, bP_0] at q
      rw [e5, bP_0] at q2
      rwa [if_neg (show ¬ sHas _ _ _ _ _ _ from q), if_neg (show ¬ sHas _ _ _ _ _ _ from q2)] at k
    · rw [e4, bP_0] at q
      rw [e5, bP_n] at q2
      rwa [if_neg (show ¬ sHas _ _ _ _ _ _ from q), if_pos (show sHas _ _ _ _ _ _ from q2)] at k
    · rw [e4, bP_n] at q
      rwa [if_pos (show sHas _ _ _ _ _ _ from q)] at k
  | succ n ih =>
    intro i x4 x5 hi e4 e5
    have skip : ¬ (vPoss I i ∧ vLike I p (vTw I) i) → gw_X12_own (d + 1) Q 17 [some (.ref 160), some (.int (nI p)), some (.int x4), some (.int x5), some (.int (nI i + 1))] [] I L P := by
      intro hc
      rw [nI_1]
      refine ih (i + 1) x4 x5 (by omega) (e4.trans (bP_c ?_)) (e5.trans (bP_c ?_))
      · refine ⟨fun h v hv pv lv => ?_, fun h v hv => h v (by omega)⟩
        rcases Nat.lt_succ_iff_lt_or_eq.mp hv with q | q
        · exact h v q pv lv
        · subst q; exact absurd ⟨pv, lv⟩ hc
      · refine ⟨fun h v hv pv lv => ?_, fun h v hv => h v (by omega)⟩
        rcases Nat.lt_succ_iff_lt_or_eq.mp hv with q | q
        · exact h v q pv lv
        · subst q; exact absurd ⟨pv, lv⟩ hc
    have full : vPoss I i → vLike I p (vTw I) i → ∀ t4 : Int32, t4 = bP (∀ v, v < i + 1 → vPoss I v → vLike I p (vTw I) v → v.testBit p = true) → gw_X12_own (d + 1) Q 72 [some (.ref 160), some (.int (nI p)), none, some (.int x5), some (.int (nI i))] [.int t4] I L P := by
      intro pi li t4 et4
      have last : ∀ t5 : Int32, t5 = bP (∀ v, v < i + 1 → vPoss I v → vLike I p (vTw I) v → v.testBit p = false) → gw_X12_own (d + 1) Q 91 [some (.ref 160), some (.int (nI p)), some (.int t4), none, some (.int (nI i))] [.int t5] I L P := by
        intro t5 et5
        refine g_X12_own_91 hP (by omega) ?_
        unfold v_X12_own_91
        rw [nI_1]
        exact ih (i + 1) t4 t5 (by omega) et4 et5
      refine g_X12_own_72 hP (by omega) ⟨fun q => last 0 ?_, fun q => ⟨fun q2 => last 0 ?_, fun q2 => last 1 ?_⟩⟩
      · rw [e5, bP_0] at q
        exact (bP_f (fun h => q (fun v hv => h v (by omega)))).symm
      · rw [nx_bit0 (by omega) (by omega)] at q2
        exact (bP_f (fun h => q2 (h i (by omega) pi li))).symm
      · rw [e5, bP_n] at q
        rw [nx_bit0 (by omega) (by omega)] at q2
        refine (bP_t (fun v hv pv lv => ?_)).symm
        rcases Nat.lt_succ_iff_lt_or_eq.mp hv with z | z
        · exact q v z pv lv
        · subst z; exact q2
    refine g_X12_own_17 hP (by omega) ⟨hE.1, fun q => absurd q (nI_ge (by omega) (by omega)), fun _ => ⟨nx_in (by omega) (by decide), fun q => skip ?_, fun q => ⟨hT, ?_⟩⟩⟩
    · rw [nI_cl (by omega)] at q
      exact fun h => h.1 q
    · rw [nI_cl (by omega)] at q
      refine sp_X12_areLike hP hE.1 hE.2.1 hE.2.2 hp (by omega) (by omega) (by omega) ⟨fun q2 => ?_, fun q2 => skip ?_⟩
      · rw [bP_n] at q2
        refine ⟨fun q3 => full q q2 0 ?_, fun q3 => ⟨fun q4 => full q q2 0 ?_, fun q4 => full q q2 1 ?_⟩⟩
        · rw [e4, bP_0] at q3
          exact (bP_f (fun h => q3 (fun v hv => h v (by omega)))).symm
        · rw [nx_bit1 (by omega) (by omega)] at q4
          exact (bP_f (fun h => q4 (h i (by omega) q q2))).symm
        · rw [e4, bP_n] at q3
          rw [nx_bit1 (by omega) (by omega)] at q4
          refine (bP_t (fun v hv pv lv => ?_)).symm
          rcases Nat.lt_succ_iff_lt_or_eq.mp hv with z | z
          · exact q3 v z pv lv
          · subst z; exact q4
      · rw [bP_0] at q2
        exact fun h => q2 h.2
/-- what one knows of his own mark -/
noncomputable def sOw (N : Nat) (po : Nat → Prop) (lk : Nat → Nat → Nat → Prop) (t p : Nat) : Int32 := @ite _ (sHas N po (lk p) p t true) (Classical.propDecidable _) 1 (@ite _ (sHas N po (lk p) p t false) (Classical.propDecidable _) 0 (-2))
theorem sp_X12_own {d : Nat} {I : zI} {L : zL} {P : zP} {p : Int32} (hP : zPk P) (hE : ME I) (hT : MT I) (hd : 4 ≤ d) {K : Int32 → zI → zL → zP → Prop} (k0 : ¬ vp_in p (vNp I) → K (-1) I L P) (k : ∀ v, v < vNp I → p = nI v → K (sOw (vN I) (vPoss I) (vLike I) (vTw I) v) I L P) : zMi zm_X12_own d [.ref 160, .int p] I L P K := by
  obtain ⟨d, rfl⟩ : ∃ e, d = e + 1 := ⟨d - 1, by omega⟩
  have hn := hE.1.2.1
  refine g_X12_own hP (by omega) ⟨hE.1, fun q => ?_, fun q => qi (k0 (bP_0.mp q))⟩
  rw [bP_n] at q
  obtain ⟨v, hv, rfl⟩ := vp_nI q (by omega)
  exact lp_X12_own hP hE hT hv (by omega) (qi (k v hv rfl)) (vN I) 0 1 1 (by omega) (bP_t (fun v hv => absurd hv (Nat.not_lt_zero v))).symm (bP_t (fun v hv => absurd hv (Nat.not_lt_zero v))).symm
abbrev gw_X12_gone (d : Nat) (Q : zQt) (pc : Nat) (lv : zV) (st : List Value) (I : zI) (L : zL) (P : zP) : Prop := zW zm_X12_gone (zRm d 0 0) 0 0 Q pc lv st I L P 205 0 0
abbrev v_X12_gone (d : Nat) (Q : zQt)  (I : zI) (L : zL) (P : zP) : Prop :=
  Q (some (.int (I 160 40))) I L P 205
set_option maxRecDepth 20000 in
theorem g_X12_gone {d : Nat} {Q : zQt}  {I : zI} {L : zL} {P : zP} (hP : zPk P) (hv : v_X12_gone d Q  I L P) : zM zm_X12_gone d 0 0 [.ref 160] I L P 205 Q := by
  unfold v_X12_gone at hv
  refine zM_of (lv0 := [some (.ref 160)]) (by decide +kernel) (Nat.le_of_ble_eq_true rfl) rfl ?_
  refine z_aload_n dX12_gone_0 rfl ?_
  refine z_getI dX12_gone_1 zf_X12_359 zn_160 zo_160 (fun _ _ _ _ _ => rfl) ?_
  exact z_ireturn dX12_gone_4 rfl rfl (Nat.le_refl _) (Nat.le_refl _) hv
theorem sp_X12_gone {d : Nat} {I : zI} {L : zL} {P : zP} (hP : zPk P) {K : Int32 → zI → zL → zP → Prop} (k : K (I 160 40) I L P) : zMi zm_X12_gone d [.ref 160] I L P K := g_X12_gone hP (qi k)
abbrev gw_X12_fault (d : Nat) (Q : zQt) (pc : Nat) (lv : zV) (st : List Value) (I : zI) (L : zL) (P : zP) : Prop := zW zm_X12_fault (zRm d 0 0) 0 0 Q pc lv st I L P 205 0 0
abbrev v_X12_fault (d : Nat) (Q : zQt) (p1 : Int32) (I : zI) (L : zL) (P : zP) : Prop :=
  ((¬ p1 = 0 →
    ((¬ p1 = 1 →
      Q (some (.int (-1))) I L P 205
    ) ∧ (p1 = 1 →
      Q (some (.int (I 160 5))) I L P 205
    ))
  ) ∧ (p1 = 0 →
    Q (some (.int (I 160 4))) I L P 205
  ))
set_option maxRecDepth 20000 in
theorem g_X12_fault {d : Nat} {Q : zQt} {p1 : Int32} {I : zI} {L : zL} {P : zP} (hP : zPk P) (hv : v_X12_fault d Q p1 I L P) : zM zm_X12_fault d 0 0 [.ref 160, .int p1] I L P 205 Q := by
  unfold v_X12_fault at hv
  refine zM_of (lv0 := [some (.ref 160), some (.int p1)]) (by decide +kernel) (Nat.le_of_ble_eq_true rfl) rfl ?_
  refine z_iload_n dX12_fault_0 rfl ?_
  refine z_if_ne (tgt := 11) dX12_fault_1 (by decide) (fun q1 => ?_) (fun q1 => ?_)
  · have hv := hv.1 q1
    refine z_iload_n dX12_fault_11 rfl ?_
    refine z_iconst (v := 1) dX12_fault_12 (by decide) ?_
    refine z_icmp_ne (tgt := 23) dX12_fault_13 (by decide) (fun q2 => ?_) (fun q2 => ?_)
    · have hv := hv.1 q2
      refine z_iconst (v := (-1)) dX12_fault_23 (by decide) ?_
      exact z_ireturn dX12_fault_24 rfl rfl (Nat.le_refl _) (Nat.le_refl _) hv
    · have hv := hv.2 q2
      refine z_aload_n dX12_fault_16 rfl ?_
      refine z_getI dX12_fault_17 zf_X12_16 zn_160 zo_160 (fun _ _ _ _ _ => rfl) ?_
      refine z_goto (tgt := 24) dX12_fault_20 (by decide) ?_
      exact z_ireturn dX12_fault_24 rfl rfl (Nat.le_refl _) (Nat.le_refl _) hv
  · have hv := hv.2 q1
    refine z_aload_n dX12_fault_4 rfl ?_
    refine z_getI dX12_fault_5 zf_X12_158 zn_160 zo_160 (fun _ _ _ _ _ => rfl) ?_
    refine z_goto (tgt := 24) dX12_fault_8 (by decide) ?_
    exact z_ireturn dX12_fault_24 rfl rfl (Nat.le_refl _) (Nat.le_refl _) hv
theorem sp_X12_fault {d : Nat} {I : zI} {L : zL} {P : zP} {w : Int32} (hP : zPk P) {K : Int32 → zI → zL → zP → Prop} (k : K (if w = 0 then I 160 4 else if w = 1 then I 160 5 else -1) I L P) : zMi zm_X12_fault d [.ref 160, .int w] I L P K := by
  refine g_X12_fault hP ⟨fun q => ⟨fun q2 => qi ?_, fun q2 => qi ?_⟩, fun q => qi ?_⟩
  · rwa [if_neg q, if_neg q2] at k
  · rwa [if_neg q, if_pos q2] at k
  · rwa [if_pos q] at k
abbrev gw_X12_later (d : Nat) (Q : zQt) (pc : Nat) (lv : zV) (st : List Value) (I : zI) (L : zL) (P : zP) : Prop := zW zm_X12_later (zRm d 0 0) 0 0 Q pc lv st I L P 205 0 0
abbrev v_X12_later (d : Nat) (Q : zQt) (p1 : Int32) (I : zI) (L : zL) (P : zP) : Prop :=
  (((bP (¬ p1 < 0 ∧ ¬ 1000 < p1)) = 0 →
    Q (some (.int (-1))) I L P 205
  ) ∧ (¬ (bP (¬ p1 < 0 ∧ ¬ 1000 < p1)) = 0 →
    ((((I 160 60) + p1) ≤ 100000 →
      ∀ I5 : zI, I5 = zuI I 160 60 ((I 160 60) + p1) →
      Q (some (.int (I5 160 60))) I5 L P 205
    ) ∧ (¬ ((I 160 60) + p1) ≤ 100000 →
      Q (some (.int (-1))) I L P 205
    ))
  ))
set_option maxRecDepth 20000 in
theorem g_X12_later {d : Nat} {Q : zQt} {p1 : Int32} {I : zI} {L : zL} {P : zP} (hP : zPk P) (hv : v_X12_later d Q p1 I L P) : zM zm_X12_later (d + 1) 0 0 [.ref 160, .int p1] I L P 205 Q := by
  unfold v_X12_later at hv
  refine zM_of (lv0 := [some (.ref 160), some (.int p1)]) (by decide +kernel) (Nat.le_of_ble_eq_true rfl) rfl ?_
  refine z_iload_n dX12_later_0 rfl ?_
  refine z_iconst (v := 0) dX12_later_1 (by decide) ?_
  refine z_sipush (v := 1000) dX12_later_2 (by decide) ?_
  refine z_callS (As := [.int p1, .int 0, .int 1000]) (st := []) dX12_later_5 zl_X12_342 zs_X12_isIn rfl rfl (Nat.le_of_ble_eq_true rfl) ⟨Nat.le_refl _, Nat.le_refl _⟩ ⟨Nat.le_refl _, Nat.le_refl _⟩ (sp_X12_isIn hP (K := fun r I' L' P' => bP (¬ p1 < 0 ∧ ¬ 1000 < p1) = r ∧ I = I' ∧ L = L' ∧ P = P') ⟨rfl, rfl, rfl, rfl⟩) (fun v1 I2 L2 P2 nx1 q2 => ?_)
  obtain ⟨rfl, r1, rfl, rfl, rfl, rfl, rfl⟩ := q2
  refine z_if_eq (tgt := 23) dX12_later_8 (by decide) (fun q3 => ?_) (fun q3 => ?_)
  · have hv := hv.1 q3
    refine z_iconst (v := (-1)) dX12_later_23 (by decide) ?_
    exact z_ireturn dX12_later_24 rfl rfl (Nat.le_refl _) (Nat.le_refl _) hv
  · have hv := hv.2 q3
    refine z_aload_n dX12_later_11 rfl ?_
    refine z_getI dX12_later_12 zf_X12_441 zn_160 zo_160 (fun _ _ _ _ _ => rfl) ?_
    refine z_iload_n dX12_later_15 rfl ?_
    refine z_iadd dX12_later_16 ?_
    refine z_ldc_w (v := 100000) dX12_later_17 zi_X12_444 ?_
    refine z_icmp_le (tgt := 25) dX12_later_20 (by decide) (fun q4 => ?_) (fun q4 => ?_)
    · have hv := hv.1 q4
      refine z_aload_n dX12_later_25 rfl ?_
      refine z_dup dX12_later_26 rfl ?_
      refine z_getI dX12_later_27 zf_X12_441 zn_160 zo_160 (fun _ _ _ _ _ => rfl) ?_
      refine z_iload_n dX12_later_30 rfl ?_
      refine z_iadd dX12_later_31 ?_
      refine z_putI dX12_later_32 zf_X12_441 zn_160 zo_160 (Or.inl rfl) (fun _ _ _ _ _ => rfl) rfl rfl (z_nmI (fun I5 e6 => ?_))
      have hv := hv I5 e6
      refine z_aload_n dX12_later_35 rfl ?_
      refine z_getI dX12_later_36 zf_X12_441 zn_160 zo_160 (fun _ _ _ _ _ => rfl) ?_
      exact z_ireturn dX12_later_39 rfl rfl (Nat.le_refl _) (Nat.le_refl _) hv
    · have hv := hv.2 q4
      refine z_iconst (v := (-1)) dX12_later_23 (by decide) ?_
      exact z_ireturn dX12_later_24 rfl rfl (Nat.le_refl _) (Nat.le_refl _) hv
theorem sp_X12_later {d : Nat} {I : zI} {L : zL} {P : zP} {b : Int32} (hP : zPk P) (hd : 1 ≤ d) {K : Int32 → zI → zL → zP → Prop} (k0 : ¬ ((¬ b < 0 ∧ ¬ 1000 < b) ∧ I 160 60 + b ≤ 100000) → K (-1) I L P) (k : (¬ b < 0 ∧ ¬ 1000 < b) → I 160 60 + b ≤ 100000 → K (I 160 60 + b) (zuI I 160 60 (I 160 60 + b)) L P) : zMi zm_X12_later d [.ref 160, .int b] I L P K := by
  obtain ⟨d, rfl⟩ : ∃ e, d = e + 1 := ⟨d - 1, by omega⟩
  refine g_X12_later hP ⟨fun q => qi (k0 (fun h => bP_0.mp q h.1)), fun q => ⟨fun q2 I1 e1 => qi ?_, fun q2 => qi (k0 (fun h => q2 h.2))⟩⟩
  subst e1
  rw [zuI_v]
  exact k (bP_n.mp q) q2
abbrev gw_X12_end (d : Nat) (Q : zQt) (pc : Nat) (lv : zV) (st : List Value) (I : zI) (L : zL) (P : zP) : Prop := zW zm_X12_end (zRm d 0 0) 0 0 Q pc lv st I L P 205 0 0
abbrev v_X12_end (d : Nat) (Q : zQt) (p1 : Int32) (I : zI) (L : zL) (P : zP) : Prop :=
  ((p1 < 0 →
    Q (some (.int (-1))) I L P 205
  ) ∧ (¬ p1 < 0 →
    ((p1 ≤ (I 160 2) →
      ∀ I3 : zI, I3 = zuI I 160 2 p1 →
      Q (some (.int p1)) I3 L P 205
    ) ∧ (¬ p1 ≤ (I 160 2) →
      Q (some (.int (-1))) I L P 205
    ))
  ))
set_option maxRecDepth 20000 in
theorem g_X12_end {d : Nat} {Q : zQt} {p1 : Int32} {I : zI} {L : zL} {P : zP} (hP : zPk P) (hv : v_X12_end d Q p1 I L P) : zM zm_X12_end d 0 0 [.ref 160, .int p1] I L P 205 Q := by
  unfold v_X12_end at hv
  refine zM_of (lv0 := [some (.ref 160), some (.int p1)]) (by decide +kernel) (Nat.le_of_ble_eq_true rfl) rfl ?_
  refine z_iload_n dX12_end_0 rfl ?_
  refine z_if_lt (tgt := 12) dX12_end_1 (by decide) (fun q1 => ?_) (fun q1 => ?_)
  · have hv := hv.1 q1
    refine z_iconst (v := (-1)) dX12_end_12 (by decide) ?_
    exact z_ireturn dX12_end_13 rfl rfl (Nat.le_refl _) (Nat.le_refl _) hv
  · have hv := hv.2 q1
    refine z_iload_n dX12_end_4 rfl ?_
    refine z_aload_n dX12_end_5 rfl ?_
    refine z_getI dX12_end_6 zf_X12_255 zn_160 zo_160 (fun _ _ _ _ _ => rfl) ?_
    refine z_icmp_le (tgt := 14) dX12_end_9 (by decide) (fun q2 => ?_) (fun q2 => ?_)
    · have hv := hv.1 q2
      refine z_aload_n dX12_end_14 rfl ?_
      refine z_iload_n dX12_end_15 rfl ?_
      refine z_putI dX12_end_16 zf_X12_255 zn_160 zo_160 (Or.inl rfl) (fun _ _ _ _ _ => rfl) rfl rfl (z_nmI (fun I3 e4 => ?_))
      have hv := hv I3 e4
      refine z_iload_n dX12_end_19 rfl ?_
      exact z_ireturn dX12_end_20 rfl rfl (Nat.le_refl _) (Nat.le_refl _) hv
    · have hv := hv.2 q2
      refine z_iconst (v := (-1)) dX12_end_12 (by decide) ?_
      exact z_ireturn dX12_end_13 rfl rfl (Nat.le_refl _) (Nat.le_refl _) hv
theorem sp_X12_end {d : Nat} {I : zI} {L : zL} {P : zP} {n : Int32} (hP : zPk P) {K : Int32 → zI → zL → zP → Prop} (k0 : ¬ (¬ n < 0 ∧ n ≤ I 160 2) → K (-1) I L P) (k : ¬ n < 0 → n ≤ I 160 2 → K n (zuI I 160 2 n) L P) : zMi zm_X12_end d [.ref 160, .int n] I L P K := by
  refine g_X12_end hP ⟨fun q => qi (k0 (fun h => h.1 q)), fun q => ⟨fun q2 I1 e1 => qi ?_, fun q2 => qi (k0 (fun h => q2 h.2))⟩⟩
  subst e1
  exact k q q2
abbrev gw_X12_untell (d : Nat) (Q : zQt) (pc : Nat) (lv : zV) (st : List Value) (I : zI) (L : zL) (P : zP) : Prop := zW zm_X12_untell (zRm d 0 0) 0 0 Q pc lv st I L P 205 0 0
abbrev v_X12_untell (d : Nat) (Q : zQt) (p1 : Int32) (I : zI) (L : zL) (P : zP) : Prop :=
  (((bP (¬ p1 < 0 ∧ ¬ ((I 160 59) - 1) < p1)) = 0 →
    Q (some (.int 0)) I L P 205
  ) ∧ (¬ (bP (¬ p1 < 0 ∧ ¬ ((I 160 59) - 1) < p1)) = 0 →
    vp_in p1 20 ∧
    (((I 192 p1.toNatClampNeg) < 0 →
      ∀ I7 : zI, I7 = zuI I 192 p1.toNatClampNeg (I 160 60) →
      Q (some (.int 1)) I7 L P 205
    ) ∧ (¬ (I 192 p1.toNatClampNeg) < 0 →
      Q (some (.int 0)) I L P 205
    ))
  ))
set_option maxRecDepth 20000 in
theorem g_X12_untell {d : Nat} {Q : zQt} {p1 : Int32} {I : zI} {L : zL} {P : zP} (hP : zPk P) (hv : v_X12_untell d Q p1 I L P) : zM zm_X12_untell (d + 1) 0 0 [.ref 160, .int p1] I L P 205 Q := by
  unfold v_X12_untell at hv
  refine zM_of (lv0 := [some (.ref 160), some (.int p1)]) (by decide +kernel) (Nat.le_of_ble_eq_true rfl) rfl ?_
  refine z_iload_n dX12_untell_0 rfl ?_
  refine z_iconst (v := 0) dX12_untell_1 (by decide) ?_
  refine z_aload_n dX12_untell_2 rfl ?_
  refine z_getI dX12_untell_3 zf_X12_267 zn_160 zo_160 (fun _ _ _ _ _ => rfl) ?_
  refine z_iconst (v := 1) dX12_untell_6 (by decide) ?_
  refine z_isub dX12_untell_7 ?_
  refine z_callS (As := [.int p1, .int 0, .int ((I 160 59) - 1)]) (st := []) dX12_untell_8 zl_X12_342 zs_X12_isIn rfl rfl (Nat.le_of_ble_eq_true rfl) ⟨Nat.le_refl _, Nat.le_refl _⟩ ⟨Nat.le_refl _, Nat.le_refl _⟩ (sp_X12_isIn hP (K := fun r I' L' P' => bP (¬ p1 < 0 ∧ ¬ ((I 160 59) - 1) < p1) = r ∧ I = I' ∧ L = L' ∧ P = P') ⟨rfl, rfl, rfl, rfl⟩) (fun v1 I2 L2 P2 nx1 q2 => ?_)
  obtain ⟨rfl, r1, rfl, rfl, rfl, rfl, rfl⟩ := q2
  refine z_if_eq (tgt := 23) dX12_untell_11 (by decide) (fun q3 => ?_) (fun q3 => ?_)
  · have hv := hv.1 q3
    refine z_iconst (v := 0) dX12_untell_23 (by decide) ?_
    exact z_ireturn dX12_untell_24 rfl (by decide) (Nat.le_refl _) (Nat.le_refl _) hv
  · have hv := hv.2 q3
    refine z_aload_n dX12_untell_14 rfl ?_
    refine z_getP dX12_untell_15 zf_X12_110 zn_160 zo_160 (fun _ _ _ _ _ => rfl) (hP 160 52 192 zp_160_52) ?_
    refine z_iload_n dX12_untell_18 rfl ?_
    obtain ⟨h4, hv⟩ := hv
    refine z_iaload dX12_untell_19 zn_192 zh_192 h4 ?_
    refine z_if_lt (tgt := 25) dX12_untell_20 (by decide) (fun q5 => ?_) (fun q5 => ?_)
    · have hv := hv.1 q5
      refine z_aload_n dX12_untell_25 rfl ?_
      refine z_getP dX12_untell_26 zf_X12_110 zn_160 zo_160 (fun _ _ _ _ _ => rfl) (hP 160 52 192 zp_160_52) ?_
      refine z_iload_n dX12_untell_29 rfl ?_
      refine z_aload_n dX12_untell_30 rfl ?_
      refine z_getI dX12_untell_31 zf_X12_441 zn_160 zo_160 (fun _ _ _ _ _ => rfl) ?_
      refine z_iastore dX12_untell_34 zn_192 zh_192 h4 (z_nmI (fun I7 e6 => ?_))
      have hv := hv I7 e6
      refine z_iconst (v := 1) dX12_untell_35 (by decide) ?_
      exact z_ireturn dX12_untell_36 rfl (by decide) (Nat.le_refl _) (Nat.le_refl _) hv
    · have hv := hv.2 q5
      refine z_iconst (v := 0) dX12_untell_23 (by decide) ?_
      exact z_ireturn dX12_untell_24 rfl (by decide) (Nat.le_refl _) (Nat.le_refl _) hv
theorem sp_X12_untell {d : Nat} {I : zI} {L : zL} {P : zP} {n : Int32} {m : Nat} (hP : zPk P) (hm : m ≤ 20) (h59 : I 160 59 = nI m) (hd : 1 ≤ d) {K : Int32 → zI → zL → zP → Prop} (k0 : ¬ (∃ j, j < m ∧ n = nI j ∧ I 192 j < 0) → K 0 I L P) (k : ∀ j, j < m → n = nI j → I 192 j < 0 → K 1 (zuI I 192 j (I 160 60)) L P) : zMi zm_X12_untell d [.ref 160, .int n] I L P K := by
  obtain ⟨d, rfl⟩ : ∃ e, d = e + 1 := ⟨d - 1, by omega⟩
  refine g_X12_untell hP ⟨fun q => qi (k0 ?_), fun q => ?_⟩
  · rw [h59, bP_c (isIn_iff (by omega)), bP_0] at q
    rintro ⟨j, h1, rfl, -⟩
    exact q (nx_in h1 (by omega))
  · rw [h59, bP_c (isIn_iff (by omega)), bP_n] at q
    obtain ⟨j, hj, rfl⟩ := vp_nI q (by omega)
    have cj : (nI j).toNatClampNeg = j := nI_cl (by omega)
    refine ⟨nx_in (by omega) (by decide), fun q2 I1 e1 => qi ?_, fun q2 => qi (k0 ?_)⟩
    · rw [cj] at q2 e1
      subst e1
      exact k j hj rfl q2
    · rw [cj] at q2
      rintro ⟨j', h1, h2, h3⟩
      have : j = j' := (nI_eq (by omega) (by omega)).mp h2
      subst this; exact q2 h3
abbrev gw_X12_sight (d : Nat) (Q : zQt) (pc : Nat) (lv : zV) (st : List Value) (I : zI) (L : zL) (P : zP) : Prop := zW zm_X12_sight (zRm d 0 0) 0 0 Q pc lv st I L P 205 0 0
abbrev v_X12_sight (d : Nat) (Q : zQt) (p1 : Int32) (p2 : Int32) (p3 : Int32) (I : zI) (L : zL) (P : zP) : Prop :=
  MB I ∧
  (((bP (vp_in p1 (vNp I))) = 0 →
    Q (some (.int (-1))) I L P 205
  ) ∧ (¬ (bP (vp_in p1 (vNp I))) = 0 →
    (((bP (¬ p2 < 1 ∧ ¬ 12 < p2)) = 0 →
      Q (some (.int (-1))) I L P 205
    ) ∧ (¬ (bP (¬ p2 < 1 ∧ ¬ 12 < p2)) = 0 →
      ((¬ (I 160 59) = 20 →
        vp_in (I 160 59) 20 ∧
        ∀ I11 : zI, I11 = zuI I 189 (I 160 59).toNatClampNeg p1 →
        vp_in (I11 160 59) 20 ∧
        ∀ I14 : zI, I14 = zuI I11 190 (I11 160 59).toNatClampNeg p2 →
        vp_in (I14 160 59) 20 ∧
        (p3 = 0 ∨ p3 = 1) ∧
        ∀ I17 : zI, I17 = zuI I14 197 (I14 160 59).toNatClampNeg p3 →
        vp_in (I17 160 59) 20 ∧
        ∀ I21 : zI, I21 = zuI I17 191 (I17 160 59).toNatClampNeg (I17 160 60) →
        vp_in (I21 160 59) 20 ∧
        ∀ I24 : zI, I24 = zuI I21 192 (I21 160 59).toNatClampNeg (-1) →
        ∀ I25 : zI, I25 = zuI I24 160 59 ((I24 160 59) + 1) →
        Q (some (.int ((I25 160 59) - 1))) I25 L P 205
      ) ∧ ((I 160 59) = 20 →
        Q (some (.int (-1))) I L P 205
      ))
    ))
  ))
set_option maxRecDepth 20000 in
theorem g_X12_sight {d : Nat} {Q : zQt} {p1 : Int32} {p2 : Int32} {p3 : Int32} {I : zI} {L : zL} {P : zP} (hP : zPk P) (hd : 1 ≤ d) (hv : v_X12_sight d Q p1 p2 p3 I L P) : zM zm_X12_sight (d + 1) 0 0 [.ref 160, .int p1, .int p2, .int p3] I L P 205 Q := by
  unfold v_X12_sight at hv
  refine zM_of (lv0 := [some (.ref 160), some (.int p1), some (.int p2), some (.int p3)]) (by decide +kernel) (Nat.le_of_ble_eq_true rfl) rfl ?_
  refine z_aload_n dX12_sight_0 rfl ?_
  refine z_iload_n dX12_sight_1 rfl ?_
  obtain ⟨h1, hv⟩ := hv
  refine z_callV (As := [.int p1]) (st := []) dX12_sight_2 zl_X12_365 zv_X12_isOne (by decide) rfl zn_160 zo_160 rfl rfl (Nat.le_of_ble_eq_true rfl) ⟨Nat.le_refl _, Nat.le_refl _⟩ ⟨Nat.le_refl _, Nat.le_refl _⟩ (sp_X12_isOne hP h1 (by omega) (K := fun r I' L' P' => bP (vp_in p1 (vNp I)) = r ∧ I = I' ∧ L = L' ∧ P = P') ⟨rfl, rfl, rfl, rfl⟩) (fun v1 I2 L2 P2 nx1 q3 => ?_)
  obtain ⟨rfl, r2, rfl, rfl, rfl, rfl, rfl⟩ := q3
  refine z_if_eq (tgt := 27) dX12_sight_5 (by decide) (fun q4 => ?_) (fun q4 => ?_)
  · have hv := hv.1 q4
    refine z_iconst (v := (-1)) dX12_sight_27 (by decide) ?_
    exact z_ireturn dX12_sight_28 rfl rfl (Nat.le_refl _) (Nat.le_refl _) hv
  · have hv := hv.2 q4
    refine z_iload_n dX12_sight_8 rfl ?_
    refine z_iconst (v := 1) dX12_sight_9 (by decide) ?_
    refine z_bipush (v := 12) dX12_sight_10 (by decide) ?_
    refine z_callS (As := [.int p2, .int 1, .int 12]) (st := []) dX12_sight_12 zl_X12_342 zs_X12_isIn rfl rfl (Nat.le_of_ble_eq_true rfl) ⟨Nat.le_refl _, Nat.le_refl _⟩ ⟨Nat.le_refl _, Nat.le_refl _⟩ (sp_X12_isIn hP (K := fun r I' L' P' => bP (¬ p2 < 1 ∧ ¬ 12 < p2) = r ∧ I = I' ∧ L = L' ∧ P = P') ⟨rfl, rfl, rfl, rfl⟩) (fun v1 I2 L2 P2 nx1 q6 => ?_)
    obtain ⟨rfl, r5, rfl, rfl, rfl, rfl, rfl⟩ := q6
    refine z_if_eq (tgt := 27) dX12_sight_15 (by decide) (fun q7 => ?_) (fun q7 => ?_)
    · have hv := hv.1 q7
      refine z_iconst (v := (-1)) dX12_sight_27 (by decide) ?_
      exact z_ireturn dX12_sight_28 rfl rfl (Nat.le_refl _) (Nat.le_refl _) hv
    · have hv := hv.2 q7
      refine z_aload_n dX12_sight_18 rfl ?_
      refine z_getI dX12_sight_19 zf_X12_267 zn_160 zo_160 (fun _ _ _ _ _ => rfl) ?_
      refine z_bipush (v := 20) dX12_sight_22 (by decide) ?_
      refine z_icmp_ne (tgt := 29) dX12_sight_24 (by decide) (fun q8 => ?_) (fun q8 => ?_)
      · have hv := hv.1 q8
        refine z_aload_n dX12_sight_29 rfl ?_
        refine z_getP dX12_sight_30 zf_X12_101 zn_160 zo_160 (fun _ _ _ _ _ => rfl) (hP 160 49 189 zp_160_49) ?_
        refine z_aload_n dX12_sight_33 rfl ?_
        refine z_getI dX12_sight_34 zf_X12_267 zn_160 zo_160 (fun _ _ _ _ _ => rfl) ?_
        refine z_iload_n dX12_sight_37 rfl ?_
        obtain ⟨h9, hv⟩ := hv
        refine z_iastore dX12_sight_38 zn_189 zh_189 h9 (z_nmI (fun I11 e10 => ?_))
        have hv := hv I11 e10
        refine z_aload_n dX12_sight_39 rfl ?_
        refine z_getP dX12_sight_40 zf_X12_104 zn_160 zo_160 (fun _ _ _ _ _ => rfl) (hP 160 50 190 zp_160_50) ?_
        refine z_aload_n dX12_sight_43 rfl ?_
        refine z_getI dX12_sight_44 zf_X12_267 zn_160 zo_160 (fun _ _ _ _ _ => rfl) ?_
        refine z_iload_n dX12_sight_47 rfl ?_
        obtain ⟨h12, hv⟩ := hv
        refine z_iastore dX12_sight_48 zn_190 zh_190 h12 (z_nmI (fun I14 e13 => ?_))
        have hv := hv I14 e13
        refine z_aload_n dX12_sight_49 rfl ?_
        refine z_getP dX12_sight_50 zf_X12_125 zn_160 zo_160 (fun _ _ _ _ _ => rfl) (hP 160 57 197 zp_160_57) ?_
        refine z_aload_n dX12_sight_53 rfl ?_
        refine z_getI dX12_sight_54 zf_X12_267 zn_160 zo_160 (fun _ _ _ _ _ => rfl) ?_
        refine z_iload_n dX12_sight_57 rfl ?_
        obtain ⟨h15, hv⟩ := hv
        obtain ⟨h18, hv⟩ := hv
        refine z_zastore dX12_sight_58 zn_197 zh_197 h15 (zbn h18) (z_nmI (fun I17 e16 => ?_))
        have hv := hv I17 e16
        refine z_aload_n dX12_sight_59 rfl ?_
        refine z_getP dX12_sight_60 zf_X12_107 zn_160 zo_160 (fun _ _ _ _ _ => rfl) (hP 160 51 191 zp_160_51) ?_
        refine z_aload_n dX12_sight_63 rfl ?_
        refine z_getI dX12_sight_64 zf_X12_267 zn_160 zo_160 (fun _ _ _ _ _ => rfl) ?_
        refine z_aload_n dX12_sight_67 rfl ?_
        refine z_getI dX12_sight_68 zf_X12_441 zn_160 zo_160 (fun _ _ _ _ _ => rfl) ?_
        obtain ⟨h19, hv⟩ := hv
        refine z_iastore dX12_sight_71 zn_191 zh_191 h19 (z_nmI (fun I21 e20 => ?_))
        have hv := hv I21 e20
        refine z_aload_n dX12_sight_72 rfl ?_
        refine z_getP dX12_sight_73 zf_X12_110 zn_160 zo_160 (fun _ _ _ _ _ => rfl) (hP 160 52 192 zp_160_52) ?_
        refine z_aload_n dX12_sight_76 rfl ?_
        refine z_getI dX12_sight_77 zf_X12_267 zn_160 zo_160 (fun _ _ _ _ _ => rfl) ?_
        refine z_iconst (v := (-1)) dX12_sight_80 (by decide) ?_
        obtain ⟨h22, hv⟩ := hv
        refine z_iastore dX12_sight_81 zn_192 zh_192 h22 (z_nmI (fun I24 e23 => ?_))
        have hv := hv I24 e23
        refine z_aload_n dX12_sight_82 rfl ?_
        refine z_dup dX12_sight_83 rfl ?_
        refine z_getI dX12_sight_84 zf_X12_267 zn_160 zo_160 (fun _ _ _ _ _ => rfl) ?_
        refine z_iconst (v := 1) dX12_sight_87 (by decide) ?_
        refine z_iadd dX12_sight_88 ?_
        refine z_putI dX12_sight_89 zf_X12_267 zn_160 zo_160 (Or.inl rfl) (fun _ _ _ _ _ => rfl) rfl rfl (z_nmI (fun I25 e26 => ?_))
        have hv := hv I25 e26
        refine z_aload_n dX12_sight_92 rfl ?_
        refine z_getI dX12_sight_93 zf_X12_267 zn_160 zo_160 (fun _ _ _ _ _ => rfl) ?_
        refine z_iconst (v := 1) dX12_sight_96 (by decide) ?_
        refine z_isub dX12_sight_97 ?_
        exact z_ireturn dX12_sight_98 rfl rfl (Nat.le_refl _) (Nat.le_refl _) hv
      · have hv := hv.2 q8
        refine z_iconst (v := (-1)) dX12_sight_27 (by decide) ?_
        exact z_ireturn dX12_sight_28 rfl rfl (Nat.le_refl _) (Nat.le_refl _) hv
/-- the heap behind a sight told -/
def aSg (I : zI) (m : Nat) (p q w : Int32) : zI := zuI (zuI (zuI (zuI (zuI (zuI I 189 m p) 190 m q) 197 m w) 191 m (I 160 60)) 192 m (-1)) 160 59 (nI (m + 1))
theorem sp_X12_sight {d : Nat} {I : zI} {L : zL} {P : zP} {p q w : Int32} {m : Nat} (hP : zPk P) (hB : MB I) (hm : m ≤ 20) (h59 : I 160 59 = nI m) (hw : w = 0 ∨ w = 1) (hd : 2 ≤ d) {K : Int32 → zI → zL → zP → Prop} (k0 : ¬ (vp_in p (vNp I) ∧ (¬ q < 1 ∧ ¬ 12 < q) ∧ m < 20) → K (-1) I L P) (k : vp_in p (vNp I) → (¬ q < 1 ∧ ¬ 12 < q) → m < 20 → K (nI m) (aSg I m p q w) L P) : zMi zm_X12_sight d [.ref 160, .int p, .int q, .int w] I L P K := by
  obtain ⟨d, rfl⟩ : ∃ e, d = e + 1 := ⟨d - 1, by omega⟩
  have cm : (nI m).toNatClampNeg = m := nI_cl (by omega)
  refine g_X12_sight hP (by omega) ⟨hB, fun z => qi (k0 (fun h => bP_0.mp z h.1)), fun z => ⟨fun z2 => qi (k0 (fun h => bP_0.mp z2 h.2.1)), fun z2 => ⟨fun z3 => ?_, fun z3 => qi (k0 ?_)⟩⟩⟩
  · have hm2 : m < 20 := by
      rcases Nat.lt_or_ge m 20 with h | h
      · exact h
      · have : m = 20 := by omega
        subst this; exact absurd h59 z3
    have hin : vp_in (nI m) 20 := nx_in hm2 (by decide)
    refine ⟨by rw [h59]; exact hin, fun I1 e1 => ?_⟩
    rw [h59, cm] at e1
    subst e1
    have s1 : zuI I 189 m p 160 = I 160 := zuI_ne (by decide)
    refine ⟨by rw [s1, h59]; exact hin, fun I2 e2 => ?_⟩
    rw [s1, h59, cm] at e2
    subst e2
    have s2 : zuI (zuI I 189 m p) 190 m q 160 = I 160 := by rw [zuI_ne (by decide), s1]
    refine ⟨by rw [s2, h59]; exact hin, hw, fun I3 e3 => ?_⟩
    rw [s2, h59, cm] at e3
    subst e3
    have s3 : zuI (zuI (zuI I 189 m p) 190 m q) 197 m w 160 = I 160 := by rw [zuI_ne (by decide), s2]
    refine ⟨by rw [s3, h59]; exact hin, fun I4 e4 => ?_⟩
    rw [s3, h59, cm] at e4
    subst e4
    have s4 : zuI (zuI (zuI (zuI I 189 m p) 190 m q) 197 m w) 191 m (I 160 60) 160 = I 160 := by rw [zuI_ne (by decide), s3]
    refine ⟨by rw [s4, h59]; exact hin, fun I5 e5 I6 e6 => qi ?_⟩
    rw [s4, h59, cm] at e5
    subst e5
    have s5 : zuI (zuI (zuI (zuI (zuI I 189 m p) 190 m q) 197 m w) 191 m (I 160 60)) 192 m (-1) 160 = I 160 := by rw [zuI_ne (by decide), s4]
    rw [s5, h59, nI_1] at e6
    subst e6
    rw [zuI_v, nI_pred]
    exact k (bP_n.mp z) (bP_n.mp z2) hm2
  · rw [h59] at z3
    rintro ⟨-, -, h⟩
    have : m = 20 := (nI_eq (by omega) (by decide)).mp z3
    omega
