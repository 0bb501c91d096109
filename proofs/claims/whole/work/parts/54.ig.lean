/-! ===== the model: a line ===== -/
def aBeh (A : Ai) : Prop := 0 < A.1 2 ∨ A.1 5 ≠ 0 ∨ 0 < A.1 3
def aFull (A : Ai) (k : Nat) : Prop := if k = 256 then (A.1 0 = 8 ∨ aBeh A) else if k = 260 then A.1 2 = 30 else if k = 261 then A.1 5 ≠ 0 else if k = 264 then A.1 3 = 6 else True
section LN
variable {d : Nat} {T : Nat → Int32} {n rb e : Nat} {I : zI} {L : zL} {P : zP} {A : Ai}
abbrev gw_X12_isBehind (d : Nat) (Q : zQt) (pc : Nat) (lv : zV) (st : List Value) (I : zI) (L : zL) (P : zP) : Prop := zW zm_X12_isBehind (zRm d 0 0) 0 0 Q pc lv st I L P 205 0 0
abbrev v_X12_isBehind (d : Nat) (Q : zQt)  (I : zI) (L : zL) (P : zP) : Prop :=
  vp_in (I 160 29) 2 ∧
  ((0 < (I 164 (I 160 29).toNatClampNeg) →
    Q (some (.int 1)) I L P 205
  ) ∧ (¬ 0 < (I 164 (I 160 29).toNatClampNeg) →
    ((¬ (I 172 (I 160 29).toNatClampNeg) = 0 →
      Q (some (.int 1)) I L P 205
    ) ∧ ((I 172 (I 160 29).toNatClampNeg) = 0 →
      (((I 165 (I 160 29).toNatClampNeg) ≤ 0 →
        Q (some (.int 0)) I L P 205
      ) ∧ (¬ (I 165 (I 160 29).toNatClampNeg) ≤ 0 →
        Q (some (.int 1)) I L P 205
      ))
    ))
  ))
set_option maxRecDepth 20000 in
theorem g_X12_isBehind {d : Nat} {Q : zQt}  {I : zI} {L : zL} {P : zP} (hP : zPk P) (hv : v_X12_isBehind d Q  I L P) : zM zm_X12_isBehind d 0 0 [.ref 160] I L P 205 Q := by
  unfold v_X12_isBehind at hv
  refine zM_of (lv0 := [some (.ref 160)]) (by decide +kernel) (Nat.le_of_ble_eq_true rfl) rfl ?_
  refine z_aload_n dX12_isBehind_0 rfl ?_
  refine z_getP dX12_isBehind_1 zf_X12_24 zn_160 zo_160 (fun _ _ _ _ _ => rfl) (hP 160 12 164 zp_160_12) ?_
  refine z_aload_n dX12_isBehind_4 rfl ?_
  refine z_getI dX12_isBehind_5 zf_X12_243 zn_160 zo_160 (fun _ _ _ _ _ => rfl) ?_
  obtain ⟨h1, hv⟩ := hv
  refine z_iaload dX12_isBehind_8 zn_164 zh_164 h1 ?_
  refine z_if_gt (tgt := 36) dX12_isBehind_9 (by decide) (fun q2 => ?_) (fun q2 => ?_)
  · have hv := hv.1 q2
    refine z_iconst (v := 1) dX12_isBehind_36 (by decide) ?_
    refine z_goto (tgt := 41) dX12_isBehind_37 (by decide) ?_
    exact z_ireturn dX12_isBehind_41 rfl (by decide) (Nat.le_refl _) (Nat.le_refl _) hv
  · have hv := hv.2 q2
    refine z_aload_n dX12_isBehind_12 rfl ?_
    refine z_getP dX12_isBehind_13 zf_X12_49 zn_160 zo_160 (fun _ _ _ _ _ => rfl) (hP 160 20 172 zp_160_20) ?_
    refine z_aload_n dX12_isBehind_16 rfl ?_
    refine z_getI dX12_isBehind_17 zf_X12_243 zn_160 zo_160 (fun _ _ _ _ _ => rfl) ?_
    refine z_zaload dX12_isBehind_20 zn_172 zh_172 h1 ?_
    refine z_if_ne (tgt := 36) dX12_isBehind_21 (by decide) (fun q3 => ?_) (fun q3 => ?_)
    · have hv := hv.1 q3
      refine z_iconst (v := 1) dX12_isBehind_36 (by decide) ?_
      refine z_goto (tgt := 41) dX12_isBehind_37 (by decide) ?_
      exact z_ireturn dX12_isBehind_41 rfl (by decide) (Nat.le_refl _) (Nat.le_refl _) hv
    · have hv := hv.2 q3
      refine z_aload_n dX12_isBehind_24 rfl ?_
      refine z_getP dX12_isBehind_25 zf_X12_27 zn_160 zo_160 (fun _ _ _ _ _ => rfl) (hP 160 13 165 zp_160_13) ?_
      refine z_aload_n dX12_isBehind_28 rfl ?_
      refine z_getI dX12_isBehind_29 zf_X12_243 zn_160 zo_160 (fun _ _ _ _ _ => rfl) ?_
      refine z_iaload dX12_isBehind_32 zn_165 zh_165 h1 ?_
      refine z_if_le (tgt := 40) dX12_isBehind_33 (by decide) (fun q4 => ?_) (fun q4 => ?_)
      · have hv := hv.1 q4
        refine z_iconst (v := 0) dX12_isBehind_40 (by decide) ?_
        exact z_ireturn dX12_isBehind_41 rfl (by decide) (Nat.le_refl _) (Nat.le_refl _) hv
      · have hv := hv.2 q4
        refine z_iconst (v := 1) dX12_isBehind_36 (by decide) ?_
        refine z_goto (tgt := 41) dX12_isBehind_37 (by decide) ?_
        exact z_ireturn dX12_isBehind_41 rfl (by decide) (Nat.le_refl _) (Nat.le_refl _) hv
theorem sp_X12_isBehind (hP : zPk P) (hM : iM rb I L A) {K : Int32 → zI → zL → zP → Prop} (kk : K (bP (aBeh A)) I L P) : zMi zm_X12_isBehind d [.ref 160] I L P K := by
  obtain ⟨⟨h29, hr⟩, m2, m3, m4, m5, m6, m7, m8, -⟩ := hM
  have z2 : (0 : Int32) < nI (A.1 2) ↔ 0 < A.1 2 := nI_ltI (a := 0) (by decide) (by omega)
  have z5 : nI (A.1 5) = 0 ↔ A.1 5 = 0 := nI_zero (by omega)
  have z3 : nI (A.1 3) ≤ 0 ↔ A.1 3 ≤ 0 := nI_leI (b := 0) (by omega) (by decide)
  refine g_X12_isBehind hP ?_
  unfold v_X12_isBehind
  rw [h29, nI_cl (by omega), m4.2, m7.2, m5.2, z2, z5, z3]
  refine ⟨nx_in hr (by decide), fun q => ?_, fun q => ⟨fun q2 => ?_, fun q2 => ⟨fun q3 => ?_, fun q3 => ?_⟩⟩⟩
  · rw [bP_t (show aBeh A from Or.inl q)] at kk; exact qi kk
  · rw [bP_t (show aBeh A from Or.inr (Or.inl q2))] at kk; exact qi kk
  · rw [bP_f (show ¬ aBeh A from fun z => by rcases z with z | z | z <;> omega)] at kk; exact qi kk
  · rw [bP_t (show aBeh A from Or.inr (Or.inr (by omega)))] at kk; exact qi kk
abbrev gw_X12_isFull (d : Nat) (Q : zQt) (pc : Nat) (lv : zV) (st : List Value) (I : zI) (L : zL) (P : zP) : Prop := zW zm_X12_isFull (zRm d 0 0) 0 0 Q pc lv st I L P 205 0 0
abbrev v_X12_isFull (d : Nat) (Q : zQt)  (I : zI) (L : zL) (P : zP) : Prop :=
  (((bP (I 160 8 = 3 ∧ L 160 10 = 7302757)) = 0 →
    (((bP (I 160 8 = 3 ∧ L 160 10 = 422725643876)) = 0 →
      (((bP (I 160 8 = 3 ∧ L 160 10 = 7102839)) = 0 →
        (((bP (I 160 8 = 3 ∧ L 160 10 = 126862485974631)) = 0 →
          Q (some (.int 1)) I L P 205
        ) ∧ (¬ (bP (I 160 8 = 3 ∧ L 160 10 = 126862485974631)) = 0 →
          vp_in (I 160 29) 2 ∧
          ((¬ (I 165 (I 160 29).toNatClampNeg) = 6 →
            Q (some (.int 0)) I L P 205
          ) ∧ ((I 165 (I 160 29).toNatClampNeg) = 6 →
            Q (some (.int 1)) I L P 205
          ))
        ))
      ) ∧ (¬ (bP (I 160 8 = 3 ∧ L 160 10 = 7102839)) = 0 →
        vp_in (I 160 29) 2 ∧
        (I 172 (I 160 29).toNatClampNeg = 0 ∨ I 172 (I 160 29).toNatClampNeg = 1) ∧
        Q (some (.int (I 172 (I 160 29).toNatClampNeg))) I L P 205
      ))
    ) ∧ (¬ (bP (I 160 8 = 3 ∧ L 160 10 = 422725643876)) = 0 →
      vp_in (I 160 29) 2 ∧
      ((¬ (I 164 (I 160 29).toNatClampNeg) = 30 →
        Q (some (.int 0)) I L P 205
      ) ∧ ((I 164 (I 160 29).toNatClampNeg) = 30 →
        Q (some (.int 1)) I L P 205
      ))
    ))
  ) ∧ (¬ (bP (I 160 8 = 3 ∧ L 160 10 = 7302757)) = 0 →
    vp_in (I 160 29) 2 ∧
    (((I 163 (I 160 29).toNatClampNeg) = 8 →
      Q (some (.int 1)) I L P 205
    ) ∧ (¬ (I 163 (I 160 29).toNatClampNeg) = 8 →
      zMi zm_X12_isBehind d [.ref 160] I L P (fun r25 I21 L22 P23 =>
        ((r25 = 0 →
          Q (some (.int 0)) I21 L22 P23 205
        ) ∧ (¬ r25 = 0 →
          Q (some (.int 1)) I21 L22 P23 205
        ))
      )
    ))
  ))
set_option maxRecDepth 20000 in
theorem g_X12_isFull {d : Nat} {Q : zQt}  {I : zI} {L : zL} {P : zP} (hP : zPk P) (hv : v_X12_isFull d Q  I L P) : zM zm_X12_isFull (d + 1) 0 0 [.ref 160] I L P 205 Q := by
  unfold v_X12_isFull at hv
  refine zM_of (lv0 := [some (.ref 160)]) (by decide +kernel) (Nat.le_of_ble_eq_true rfl) rfl ?_
  refine z_aload_n dX12_isFull_0 rfl ?_
  refine z_ldc2 (v := 7302757) dX12_isFull_1 zj_X12_161 ?_
  refine z_callV (As := [.long 7302757]) (st := []) dX12_isFull_4 zl_X12_270 zv_X12_isWord (by decide) rfl zn_160 zo_160 rfl rfl (Nat.le_of_ble_eq_true rfl) ⟨Nat.le_refl _, Nat.le_refl _⟩ ⟨Nat.le_refl _, Nat.le_refl _⟩ (sp_X12_isWord hP (K := fun r I' L' P' => bP (I 160 8 = 3 ∧ L 160 10 = 7302757) = r ∧ I = I' ∧ L = L' ∧ P = P') ⟨rfl, rfl, rfl, rfl⟩) (fun v1 I2 L2 P2 nx1 q2 => ?_)
  obtain ⟨rfl, r1, rfl, rfl, rfl, rfl, rfl⟩ := q2
  refine z_if_eq (tgt := 37) dX12_isFull_7 (by decide) (fun q3 => ?_) (fun q3 => ?_)
  · have hv := hv.1 q3
    refine z_aload_n dX12_isFull_37 rfl ?_
    refine z_ldc2 (v := 422725643876) dX12_isFull_38 zj_X12_169 ?_
    refine z_callV (As := [.long 422725643876]) (st := []) dX12_isFull_41 zl_X12_270 zv_X12_isWord (by decide) rfl zn_160 zo_160 rfl rfl (Nat.le_of_ble_eq_true rfl) ⟨Nat.le_refl _, Nat.le_refl _⟩ ⟨Nat.le_refl _, Nat.le_refl _⟩ (sp_X12_isWord hP (K := fun r I' L' P' => bP (I 160 8 = 3 ∧ L 160 10 = 422725643876) = r ∧ I = I' ∧ L = L' ∧ P = P') ⟨rfl, rfl, rfl, rfl⟩) (fun v1 I2 L2 P2 nx1 q5 => ?_)
    obtain ⟨rfl, r4, rfl, rfl, rfl, rfl, rfl⟩ := q5
    refine z_if_eq (tgt := 67) dX12_isFull_44 (by decide) (fun q6 => ?_) (fun q6 => ?_)
    · have hv := hv.1 q6
      refine z_aload_n dX12_isFull_67 rfl ?_
      refine z_ldc2 (v := 7102839) dX12_isFull_68 zj_X12_171 ?_
      refine z_callV (As := [.long 7102839]) (st := []) dX12_isFull_71 zl_X12_270 zv_X12_isWord (by decide) rfl zn_160 zo_160 rfl rfl (Nat.le_of_ble_eq_true rfl) ⟨Nat.le_refl _, Nat.le_refl _⟩ ⟨Nat.le_refl _, Nat.le_refl _⟩ (sp_X12_isWord hP (K := fun r I' L' P' => bP (I 160 8 = 3 ∧ L 160 10 = 7102839) = r ∧ I = I' ∧ L = L' ∧ P = P') ⟨rfl, rfl, rfl, rfl⟩) (fun v1 I2 L2 P2 nx1 q8 => ?_)
      obtain ⟨rfl, r7, rfl, rfl, rfl, rfl, rfl⟩ := q8
      refine z_if_eq (tgt := 87) dX12_isFull_74 (by decide) (fun q9 => ?_) (fun q9 => ?_)
      · have hv := hv.1 q9
        refine z_aload_n dX12_isFull_87 rfl ?_
        refine z_ldc2 (v := 126862485974631) dX12_isFull_88 zj_X12_177 ?_
        refine z_callV (As := [.long 126862485974631]) (st := []) dX12_isFull_91 zl_X12_270 zv_X12_isWord (by decide) rfl zn_160 zo_160 rfl rfl (Nat.le_of_ble_eq_true rfl) ⟨Nat.le_refl _, Nat.le_refl _⟩ ⟨Nat.le_refl _, Nat.le_refl _⟩ (sp_X12_isWord hP (K := fun r I' L' P' => bP (I 160 8 = 3 ∧ L 160 10 = 126862485974631) = r ∧ I = I' ∧ L = L' ∧ P = P') ⟨rfl, rfl, rfl, rfl⟩) (fun v1 I2 L2 P2 nx1 q11 => ?_)
        obtain ⟨rfl, r10, rfl, rfl, rfl, rfl, rfl⟩ := q11
        refine z_if_eq (tgt := 111) dX12_isFull_94 (by decide) (fun q12 => ?_) (fun q12 => ?_)
        · have hv := hv.1 q12
          refine z_iconst (v := 1) dX12_isFull_111 (by decide) ?_
          refine z_goto (tgt := 116) dX12_isFull_112 (by decide) ?_
          exact z_ireturn dX12_isFull_116 rfl (by decide) (Nat.le_refl _) (Nat.le_refl _) hv
        · have hv := hv.2 q12
          refine z_aload_n dX12_isFull_97 rfl ?_
          refine z_getP dX12_isFull_98 zf_X12_27 zn_160 zo_160 (fun _ _ _ _ _ => rfl) (hP 160 13 165 zp_160_13) ?_
          refine z_aload_n dX12_isFull_101 rfl ?_
          refine z_getI dX12_isFull_102 zf_X12_243 zn_160 zo_160 (fun _ _ _ _ _ => rfl) ?_
          obtain ⟨h13, hv⟩ := hv
          refine z_iaload dX12_isFull_105 zn_165 zh_165 h13 ?_
          refine z_bipush (v := 6) dX12_isFull_106 (by decide) ?_
          refine z_icmp_ne (tgt := 115) dX12_isFull_108 (by decide) (fun q14 => ?_) (fun q14 => ?_)
          · have hv := hv.1 q14
            refine z_iconst (v := 0) dX12_isFull_115 (by decide) ?_
            exact z_ireturn dX12_isFull_116 rfl (by decide) (Nat.le_refl _) (Nat.le_refl _) hv
          · have hv := hv.2 q14
            refine z_iconst (v := 1) dX12_isFull_111 (by decide) ?_
            refine z_goto (tgt := 116) dX12_isFull_112 (by decide) ?_
            exact z_ireturn dX12_isFull_116 rfl (by decide) (Nat.le_refl _) (Nat.le_refl _) hv
      · have hv := hv.2 q9
        refine z_aload_n dX12_isFull_77 rfl ?_
        refine z_getP dX12_isFull_78 zf_X12_49 zn_160 zo_160 (fun _ _ _ _ _ => rfl) (hP 160 20 172 zp_160_20) ?_
        refine z_aload_n dX12_isFull_81 rfl ?_
        refine z_getI dX12_isFull_82 zf_X12_243 zn_160 zo_160 (fun _ _ _ _ _ => rfl) ?_
        obtain ⟨h15, hv⟩ := hv
        refine z_zaload dX12_isFull_85 zn_172 zh_172 h15 ?_
        obtain ⟨h16, hv⟩ := hv
        exact z_ireturn dX12_isFull_86 rfl (zbn h16) (Nat.le_refl _) (Nat.le_refl _) hv
    · have hv := hv.2 q6
      refine z_aload_n dX12_isFull_47 rfl ?_
      refine z_getP dX12_isFull_48 zf_X12_24 zn_160 zo_160 (fun _ _ _ _ _ => rfl) (hP 160 12 164 zp_160_12) ?_
      refine z_aload_n dX12_isFull_51 rfl ?_
      refine z_getI dX12_isFull_52 zf_X12_243 zn_160 zo_160 (fun _ _ _ _ _ => rfl) ?_
      obtain ⟨h17, hv⟩ := hv
      refine z_iaload dX12_isFull_55 zn_164 zh_164 h17 ?_
      refine z_bipush (v := 30) dX12_isFull_56 (by decide) ?_
      refine z_icmp_ne (tgt := 65) dX12_isFull_58 (by decide) (fun q18 => ?_) (fun q18 => ?_)
      · have hv := hv.1 q18
        refine z_iconst (v := 0) dX12_isFull_65 (by decide) ?_
        exact z_ireturn dX12_isFull_66 rfl (by decide) (Nat.le_refl _) (Nat.le_refl _) hv
      · have hv := hv.2 q18
        refine z_iconst (v := 1) dX12_isFull_61 (by decide) ?_
        refine z_goto (tgt := 66) dX12_isFull_62 (by decide) ?_
        exact z_ireturn dX12_isFull_66 rfl (by decide) (Nat.le_refl _) (Nat.le_refl _) hv
  · have hv := hv.2 q3
    refine z_aload_n dX12_isFull_10 rfl ?_
    refine z_getP dX12_isFull_11 zf_X12_20 zn_160 zo_160 (fun _ _ _ _ _ => rfl) (hP 160 11 163 zp_160_11) ?_
    refine z_aload_n dX12_isFull_14 rfl ?_
    refine z_getI dX12_isFull_15 zf_X12_243 zn_160 zo_160 (fun _ _ _ _ _ => rfl) ?_
    obtain ⟨h19, hv⟩ := hv
    refine z_iaload dX12_isFull_18 zn_163 zh_163 h19 ?_
    refine z_bipush (v := 8) dX12_isFull_19 (by decide) ?_
    refine z_icmp_eq (tgt := 31) dX12_isFull_21 (by decide) (fun q20 => ?_) (fun q20 => ?_)
    · have hv := hv.1 q20
      refine z_iconst (v := 1) dX12_isFull_31 (by decide) ?_
      refine z_goto (tgt := 36) dX12_isFull_32 (by decide) ?_
      exact z_ireturn dX12_isFull_36 rfl (by decide) (Nat.le_refl _) (Nat.le_refl _) hv
    · have hv := hv.2 q20
      refine z_aload_n dX12_isFull_24 rfl ?_
      refine z_callV (As := []) (st := []) dX12_isFull_25 zl_X12_273 zv_X12_isBehind (by decide) rfl zn_160 zo_160 rfl rfl (Nat.le_of_ble_eq_true rfl) ⟨Nat.le_refl _, Nat.le_refl _⟩ ⟨Nat.le_refl _, Nat.le_refl _⟩ hv (fun v1 I21 L22 P23 nx1 q24 => ?_)
      obtain ⟨rfl, r25, rfl, hv⟩ := q24
      refine z_if_eq (tgt := 35) dX12_isFull_28 (by decide) (fun q26 => ?_) (fun q26 => ?_)
      · have hv := hv.1 q26
        refine z_iconst (v := 0) dX12_isFull_35 (by decide) ?_
        exact z_ireturn dX12_isFull_36 rfl (by decide) (Nat.le_refl _) (Nat.le_refl _) hv
      · have hv := hv.2 q26
        refine z_iconst (v := 1) dX12_isFull_31 (by decide) ?_
        refine z_goto (tgt := 36) dX12_isFull_32 (by decide) ?_
        exact z_ireturn dX12_isFull_36 rfl (by decide) (Nat.le_refl _) (Nat.le_refl _) hv
theorem sp_X12_isFull (hP : zPk P) (hM : iM rb I L A) (hp : pS T n I L e) (hd : 1 ≤ d) {K : Int32 → zI → zL → zP → Prop} (kk : K (bP (aFull A (tK T n e))) I L P) : zMi zm_X12_isFull d [.ref 160] I L P K := by
  obtain ⟨d, rfl⟩ : ∃ e, d = e + 1 := ⟨d - 1, by omega⟩
  have hM' := hM
  obtain ⟨⟨h29, hr⟩, m2, m3, m4, m5, m6, m7, m8, -⟩ := hM
  have w0 := pS_w hp (i := 0) (by decide) (x := 7302757) rfl
  have w4 := pS_w hp (i := 4) (by decide) (x := 422725643876) rfl
  have w5 := pS_w hp (i := 5) (by decide) (x := 7102839) rfl
  have w8 := pS_w hp (i := 8) (by decide) (x := 126862485974631) rfl
  have z6 : nI (A.1 3) = 6 ↔ A.1 3 = 6 := nI_eq (b := 6) (by omega) (by decide)
  have z30 : nI (A.1 2) = 30 ↔ A.1 2 = 30 := nI_eq (b := 30) (by omega) (by decide)
  have z8 : nI (A.1 0) = 8 ↔ A.1 0 = 8 := nI_eq (b := 8) (by omega) (by decide)
  have ans : ∀ v p, v = bP p → (p ↔ aFull A (tK T n e)) → K v I L P := fun v p h1 h2 => by rw [h1, bP_c h2]; exact kk
  refine g_X12_isFull hP ?_
  unfold v_X12_isFull
  rw [bP_c w0, bP_c w4, bP_c w5, bP_c w8, h29, nI_cl (by omega), m5.2, m7.2, m4.2, m2.2, z6, z30, z8]
  refine ⟨fun n0 => ⟨fun n4 => ⟨fun n5 => ⟨fun n8 => ?_, fun y8 => ⟨nx_in hr (by decide), fun q => ?_, fun q => ?_⟩⟩, fun y5 => ⟨nx_in hr (by decide), ?_, ?_⟩⟩, fun y4 => ⟨nx_in hr (by decide), fun q => ?_, fun q => ?_⟩⟩, fun y0 => ⟨nx_in hr (by decide), fun q => ?_, fun q => ?_⟩⟩
  · rw [bP_0] at n0 n4 n5 n8
    refine qi (ans 1 True (bP_t trivial).symm ?_)
    unfold aFull
    rw [if_neg n0, if_neg n4, if_neg n5, if_neg n8]
  · have e8 : tK T n e = 264 := bP_n.mp y8
    refine qi (ans 0 (A.1 3 = 6) (bP_f q).symm ?_)
    rw [e8]; exact Iff.rfl
  · have e8 : tK T n e = 264 := bP_n.mp y8
    refine qi (ans 1 (A.1 3 = 6) (bP_t q).symm ?_)
    rw [e8]; exact Iff.rfl
  · have : A.1 5 = 0 ∨ A.1 5 = 1 := by omega
    rcases this with z | z <;> rw [z] <;> decide
  · have e5 : tK T n e = 261 := bP_n.mp y5
    refine qi (ans _ (A.1 5 ≠ 0) ?_ ?_)
    · have : A.1 5 = 0 ∨ A.1 5 = 1 := by omega
      rcases this with z | z
      · rw [z, bP_f (fun y => y rfl)]; rfl
      · rw [z, bP_t (by decide)]; rfl
    · rw [e5]; exact Iff.rfl
  · have e4 : tK T n e = 260 := bP_n.mp y4
    refine qi (ans 0 (A.1 2 = 30) (bP_f q).symm ?_)
    rw [e4]; exact Iff.rfl
  · have e4 : tK T n e = 260 := bP_n.mp y4
    refine qi (ans 1 (A.1 2 = 30) (bP_t q).symm ?_)
    rw [e4]; exact Iff.rfl
  · have e0 : tK T n e = 256 := bP_n.mp y0
    refine qi (ans 1 (A.1 0 = 8 ∨ aBeh A) (bP_t (Or.inl q)).symm ?_)
    rw [e0]; exact Iff.rfl
  · have e0 : tK T n e = 256 := bP_n.mp y0
    refine sp_X12_isBehind hP hM' ⟨fun z => ?_, fun z => ?_⟩
    · refine qi (ans 0 (A.1 0 = 8 ∨ aBeh A) (bP_f (fun y => y.elim q (bP_0.mp z))).symm ?_)
      rw [e0]; exact Iff.rfl
    · refine qi (ans 1 (A.1 0 = 8 ∨ aBeh A) (bP_t (Or.inr (bP_n.mp z))).symm ?_)
      rw [e0]; exact Iff.rfl
end LN
