/-! ===== the class: a token is taken ===== -/
/-- the token's value stands at the place c -/
def tkL (T : Nat → Int32) (n e c : Nat) (L L' : zL) : Prop := (∀ x j, ¬ (x = 22 ∧ j = c) → L' x j = L x j) ∧ (256 ≤ tK T n e → tK T n e ≤ 273 → L' 22 c = tV T n e) ∧ (tK T n e = 274 → L' 22 c = (tN T n e).toInt64)
theorem zuL_x {L : zL} {c : Nat} {v : Int64} : ∀ x j, ¬ (x = 22 ∧ j = c) → zuL L 22 c v x j = L x j := by
  intro x j h
  by_cases e : x = 22
  · subst e; rw [zuL_o (fun z => h ⟨rfl, z⟩)]
  · rw [zuL_ne e]
theorem wdR_x {L L' : zL} {c : Nat} (h : wdR L) (hx : ∀ x j, ¬ (x = 22 ∧ j = c) → L' x j = L x j) : wdR L' := fun i hi => by rw [hx 19 i (by omega)]; exact h i hi
section TT
variable {d : Nat} {I0 : zI} {L : zL} {P : zP} {T : Nat → Int32} {n e c : Nat}
theorem sub_nI {a m : Nat} : nI (a + m) - nI a = nI m := by
  have := pk_sub (a := a + m) (b := a) (by omega)
  rw [this]
  exact nIe (by omega)
theorem sp_X9_takeWord (hP : zPk P) (hT : tpR I0 T n) (hw : wdR L) (h1 : ¬ n ≤ tA T n e) (h2 : isLt (T (tA T n e))) (h6 : I0 18 6 = nI (tA T n e)) (h5 : I0 18 5 = nI c) (hc : c < 1601) (hd : 1 ≤ d) {K : Int32 → zI → zL → zP → Prop}
    (kk : ∀ I L', kFr I0 I → I 18 6 = nI (tE T n e) → tkL T n e c L L' → K (nI (tK T n e)) I L' P) : zMi zm_X9_takeWord d [.ref 18] I0 L P K := by
  obtain ⟨d, rfl⟩ : ∃ e, d = e + 1 := ⟨d - 1, by omega⟩
  obtain ⟨t1, t2, t3⟩ := tE_l h1 h2
  have hn := hT.1
  have wl : wIx (tV T n e) ≤ 273 ∧ wIx (tV T n e) ≠ 274 := by
    by_cases z : tV T n e ∈ wdL
    · have := wIx_t z; omega
    · rw [wIx_f z]; omega
  have fin : ∀ m I, tA T n e + m = tE T n e → kFr I0 I → I 18 6 = nI (tA T n e + m) → ((nI (tA T n e + m) - nI (tA T n e) ≤ 8 → vp_in (I 18 5) 1601 ∧ ∀ L5 : zL, L5 = zuL L 22 (I 18 5).toNatClampNeg (wV T (tA T n e) m) → gw_X9_takeWord (d + 1) (fun v I' L' P' nx' => nx' = 205 ∧ ∃ r, v = some (.int r) ∧ K r I' L' P') 97 [some (.ref 18), none, some (.long (wV T (tA T n e) m)), none, some (.int 0)] [] I L5 P) ∧ (¬ nI (tA T n e + m) - nI (tA T n e) ≤ 8 → K 276 I L P)) := by
    intro m I hm hf h6'
    have hle := (tE_le (T := T) (n := n) (e := e) (by
      rcases Nat.lt_or_ge e n with z | z
      · omega
      · exact absurd (Nat.le_trans z (rn_ge _ _ _)) h1)).2
    have e5 : I 18 5 = nI c := by rw [hf.2 5 (by decide)]; exact h5
    have em : tE T n e - tA T n e = m := by omega
    have ev : wV T (tA T n e) m = tV T n e := by unfold tV; rw [em]
    rw [sub_nI, show (8 : Int32) = nI 8 from rfl, nI_leI (by omega) (by decide), e5, nI_cl (by omega), ev]
    refine ⟨fun z => ⟨nx_in hc (by decide), fun L5 e5 => ?_⟩, fun z => ?_⟩
    · have ek := t3 (by omega)
      refine lp_X9_takeWord_97 hP (by rw [e5]; exact wdR_x hw zuL_x) (qi ?_) 17 0 rfl (fun j hj hj2 => absurd hj2 (Nat.not_lt_zero j))
      rw [← ek]
      refine kk I L5 hf (by rw [h6', hm]) ⟨by rw [e5]; exact zuL_x, fun _ _ => by rw [e5, zuL_v], fun z => ?_⟩
      rw [ek] at z; exact absurd z wl.2
    · have ek := t2 (by omega)
      have := kk I L hf (by rw [h6', hm]) ⟨fun _ _ _ => rfl, fun _ z => by omega, fun z => by omega⟩
      rw [ek] at this
      exact this
  have key : ∀ f m I, n - (tA T n e + m) = f → tA T n e + m ≤ n → kFr I0 I → I 18 6 = nI (tA T n e + m) → rn (fun k => isLt (T k)) n (tA T n e + m) = tE T n e → gw_X9_takeWord (d + 1) (fun v I' L' P' nx' => nx' = 205 ∧ ∃ r, v = some (.int r) ∧ K r I' L' P') 7 [some (.ref 18), some (.int (nI (tA T n e))), some (.long (wV T (tA T n e) m)), none, none] [] I L P := by
    intro f
    induction f with
    | zero =>
      intro m I hm hle hf h6' hr
      have hT1 := tpR_k hT hf
      refine g_X9_takeWord_7 hP ⟨fun _ => ?_, fun q => absurd (by rw [hT1.2.1, h6']; exact nI_le (by omega) (by omega)) q⟩
      rw [h6']
      obtain ⟨y1, y2⟩ := fin m I (by rw [← hr, rn_0 (fun z => by omega)]) hf h6'
      exact ⟨y1, fun z => qi (y2 z)⟩
    | succ f ih =>
      intro m I hm hle hf h6' hr
      have hT1 := tpR_k hT hf
      have hlt : tA T n e + m < n := by omega
      refine g_X9_takeWord_7 hP ⟨fun q => absurd q (by rw [hT1.2.1, h6']; exact nI_ge hlt (by omega)), fun _ => ⟨tpR_v hT1, ?_⟩⟩
      rw [h6', cAt_in hT1 hlt]
      refine ⟨fun q => ⟨(fin m I (by rw [← hr, rn_0 (fun z => (bP_0.mp q) z.2)]) hf h6').1, fun z => qi ((fin m I (by rw [← hr, rn_0 (fun z => (bP_0.mp q) z.2)]) hf h6').2 z)⟩, fun q I1 e1 => ?_⟩
      rw [bP_n] at q
      subst e1
      refine ih (m + 1) _ (by omega) (by omega) (kFr_s hf) (by rw [zuI_v, nI_1]; rfl) ?_
      rw [← Nat.add_assoc, ← rn_s (p := fun k => isLt (T k)) hlt q, hr]
  refine g_X9_takeWord hP ?_
  unfold v_X9_takeWord
  rw [h6]
  exact key (n - tA T n e) 0 I0 rfl (by rw [Nat.add_zero]; omega) (kFr_rf _) h6 t1.symm
abbrev gw_X9_takeNumber (d : Nat) (Q : zQt) (pc : Nat) (lv : zV) (st : List Value) (I : zI) (L : zL) (P : zP) : Prop := zW zm_X9_takeNumber (zRm d 0 0) 0 0 Q pc lv st I L P 205 0 0
abbrev v_X9_takeNumber_7 (d : Nat) (Q : zQt) (x1 : Int32) (x2 : Int32) (I : zI) (L : zL) (P : zP) : Prop :=
  (((I 1 1) ≤ (I 18 6) →
    vp_in (I 18 5) 1601 ∧
    ∀ L4 : zL, L4 = zuL L 22 (I 18 5).toNatClampNeg ((x2 : Int32).toInt64) →
    ((4 < ((I 18 6) - x1) →
      (((1 : Int32) = 0 →
        Q (some (.int 274)) I L4 P 205
      ) ∧ (¬ (1 : Int32) = 0 →
        Q (some (.int 276)) I L4 P 205
      ))
    ) ∧ (¬ 4 < ((I 18 6) - x1) →
      vp_in (I 1 1) 1601 ∧
      (((bP (isLt (cAt I (I 18 6)))) = 0 →
        (((0 : Int32) = 0 →
          Q (some (.int 274)) I L4 P 205
        ) ∧ (¬ (0 : Int32) = 0 →
          Q (some (.int 276)) I L4 P 205
        ))
      ) ∧ (¬ (bP (isLt (cAt I (I 18 6)))) = 0 →
        (((1 : Int32) = 0 →
          Q (some (.int 274)) I L4 P 205
        ) ∧ (¬ (1 : Int32) = 0 →
          Q (some (.int 276)) I L4 P 205
        ))
      ))
    ))
  ) ∧ (¬ (I 1 1) ≤ (I 18 6) →
    vp_in (I 1 1) 1601 ∧
    (((bP (isDg (cAt I (I 18 6)))) = 0 →
      vp_in (I 18 5) 1601 ∧
      ∀ L23 : zL, L23 = zuL L 22 (I 18 5).toNatClampNeg ((x2 : Int32).toInt64) →
      ((4 < ((I 18 6) - x1) →
        (((1 : Int32) = 0 →
          Q (some (.int 274)) I L23 P 205
        ) ∧ (¬ (1 : Int32) = 0 →
          Q (some (.int 276)) I L23 P 205
        ))
      ) ∧ (¬ 4 < ((I 18 6) - x1) →
        (((bP (isLt (cAt I (I 18 6)))) = 0 →
          (((0 : Int32) = 0 →
            Q (some (.int 274)) I L23 P 205
          ) ∧ (¬ (0 : Int32) = 0 →
            Q (some (.int 276)) I L23 P 205
          ))
        ) ∧ (¬ (bP (isLt (cAt I (I 18 6)))) = 0 →
          (((1 : Int32) = 0 →
            Q (some (.int 274)) I L23 P 205
          ) ∧ (¬ (1 : Int32) = 0 →
            Q (some (.int 276)) I L23 P 205
          ))
        ))
      ))
    ) ∧ (¬ (bP (isDg (cAt I (I 18 6)))) = 0 →
      ∀ I35 : zI, I35 = zuI I 18 6 ((I 18 6) + 1) →
      gw_X9_takeNumber (d + 1) Q 7 [some (.ref 18), some (.int x1), some (.int (((x2 * 10) + (cAt I (I 18 6))) - 48)), none] [] I35 L P
    ))
  ))
set_option maxRecDepth 20000 in
theorem g_X9_takeNumber_7 {d : Nat} {Q : zQt} {x1 : Int32} {x2 : Int32} {I : zI} {L : zL} {P : zP} (hP : zPk P) (hv : v_X9_takeNumber_7 d Q x1 x2 I L P) : gw_X9_takeNumber (d + 1) Q 7 [some (.ref 18), some (.int x1), some (.int x2), none] [] I L P := by
  unfold v_X9_takeNumber_7 at hv
  refine z_aload_n dX9_takeNumber_7 rfl ?_
  refine z_getI dX9_takeNumber_8 zf_X9_33 zn_18 zo_18 (fun _ _ _ _ _ => rfl) ?_
  refine z_aload_n dX9_takeNumber_11 rfl ?_
  refine z_getP dX9_takeNumber_12 zf_X9_36 zn_18 zo_18 (fun _ _ _ _ _ => rfl) (hP 18 0 1 zp_18_0) ?_
  refine z_getI dX9_takeNumber_15 zf_X9_58 zn_1 zo_1 (fun _ _ _ _ _ => rfl) ?_
  refine z_icmp_ge (tgt := 71) dX9_takeNumber_18 (by decide) (fun q1 => ?_) (fun q1 => ?_)
  · have hv := hv.1 q1
    refine z_aload_n dX9_takeNumber_71 rfl ?_
    refine z_getP dX9_takeNumber_72 zf_X9_26 zn_18 zo_18 (fun _ _ _ _ _ => rfl) (hP 18 4 22 zp_18_4) ?_
    refine z_aload_n dX9_takeNumber_75 rfl ?_
    refine z_getI dX9_takeNumber_76 zf_X9_29 zn_18 zo_18 (fun _ _ _ _ _ => rfl) ?_
    refine z_iload_n dX9_takeNumber_79 rfl ?_
    refine z_i2l dX9_takeNumber_80 ?_
    obtain ⟨h2, hv⟩ := hv
    refine z_lastore dX9_takeNumber_81 zn_22 zh_22 h2 (z_nmL (fun L4 e3 => ?_))
    have hv := hv L4 e3
    refine z_aload_n dX9_takeNumber_82 rfl ?_
    refine z_getI dX9_takeNumber_83 zf_X9_33 zn_18 zo_18 (fun _ _ _ _ _ => rfl) ?_
    refine z_iload_n dX9_takeNumber_86 rfl ?_
    refine z_isub dX9_takeNumber_87 ?_
    refine z_iconst (v := 4) dX9_takeNumber_88 (by decide) ?_
    refine z_icmp_gt (tgt := 109) dX9_takeNumber_89 (by decide) (fun q5 => ?_) (fun q5 => ?_)
    · have hv := hv.1 q5
      refine z_iconst (v := 1) dX9_takeNumber_109 (by decide) ?_
      refine z_goto (tgt := 114) dX9_takeNumber_110 (by decide) ?_
      refine z_istore_n (lv2 := [some (.ref 18), some (.int x1), some (.int x2), some (.int 1)]) dX9_takeNumber_114 (by decide) rfl rfl ?_
      refine z_iload_n dX9_takeNumber_115 rfl ?_
      refine z_if_eq (tgt := 125) dX9_takeNumber_116 (by decide) (fun q6 => ?_) (fun q6 => ?_)
      · have hv := hv.1 q6
        refine z_sipush (v := 274) dX9_takeNumber_125 (by decide) ?_
        exact z_ireturn dX9_takeNumber_128 rfl rfl (Nat.le_refl _) (Nat.le_refl _) hv
      · have hv := hv.2 q6
        refine z_sipush (v := 276) dX9_takeNumber_119 (by decide) ?_
        refine z_goto (tgt := 128) dX9_takeNumber_122 (by decide) ?_
        exact z_ireturn dX9_takeNumber_128 rfl rfl (Nat.le_refl _) (Nat.le_refl _) hv
    · have hv := hv.2 q5
      refine z_aload_n dX9_takeNumber_92 rfl ?_
      refine z_getP dX9_takeNumber_93 zf_X9_36 zn_18 zo_18 (fun _ _ _ _ _ => rfl) (hP 18 0 1 zp_18_0) ?_
      refine z_aload_n dX9_takeNumber_96 rfl ?_
      refine z_getI dX9_takeNumber_97 zf_X9_33 zn_18 zo_18 (fun _ _ _ _ _ => rfl) ?_
      obtain ⟨h7, hv⟩ := hv
      refine z_callV (As := [.int (I 18 6)]) (st := []) dX9_takeNumber_100 zl_X9_60 zv_X8_at (by decide) rfl zn_1 zo_1 rfl rfl (Nat.le_of_ble_eq_true rfl) ⟨Nat.le_refl _, Nat.le_refl _⟩ ⟨Nat.le_refl _, Nat.le_refl _⟩ (sp_X8_at hP h7 (K := fun r I' L' P' => cAt I (I 18 6) = r ∧ I = I' ∧ L4 = L' ∧ P = P') ⟨rfl, rfl, rfl, rfl⟩) (fun v1 I2 L2 P2 nx1 q9 => ?_)
      obtain ⟨rfl, r8, rfl, rfl, rfl, rfl, rfl⟩ := q9
      refine z_callS (As := [.int (cAt I (I 18 6))]) (st := []) dX9_takeNumber_103 zl_X9_63 zs_X9_isLetter rfl rfl (Nat.le_of_ble_eq_true rfl) ⟨Nat.le_refl _, Nat.le_refl _⟩ ⟨Nat.le_refl _, Nat.le_refl _⟩ (sp_X9_isLetter hP (K := fun r I' L' P' => bP (isLt (cAt I (I 18 6))) = r ∧ I = I' ∧ L4 = L' ∧ P = P') ⟨rfl, rfl, rfl, rfl⟩) (fun v1 I2 L2 P2 nx1 q11 => ?_)
      obtain ⟨rfl, r10, rfl, rfl, rfl, rfl, rfl⟩ := q11
      refine z_if_eq (tgt := 113) dX9_takeNumber_106 (by decide) (fun q12 => ?_) (fun q12 => ?_)
      · have hv := hv.1 q12
        refine z_iconst (v := 0) dX9_takeNumber_113 (by decide) ?_
        refine z_istore_n (lv2 := [some (.ref 18), some (.int x1), some (.int x2), some (.int 0)]) dX9_takeNumber_114 (by decide) rfl rfl ?_
        refine z_iload_n dX9_takeNumber_115 rfl ?_
        refine z_if_eq (tgt := 125) dX9_takeNumber_116 (by decide) (fun q13 => ?_) (fun q13 => ?_)
        · have hv := hv.1 q13
          refine z_sipush (v := 274) dX9_takeNumber_125 (by decide) ?_
          exact z_ireturn dX9_takeNumber_128 rfl rfl (Nat.le_refl _) (Nat.le_refl _) hv
        · have hv := hv.2 q13
          refine z_sipush (v := 276) dX9_takeNumber_119 (by decide) ?_
          refine z_goto (tgt := 128) dX9_takeNumber_122 (by decide) ?_
          exact z_ireturn dX9_takeNumber_128 rfl rfl (Nat.le_refl _) (Nat.le_refl _) hv
      · have hv := hv.2 q12
        refine z_iconst (v := 1) dX9_takeNumber_109 (by decide) ?_
        refine z_goto (tgt := 114) dX9_takeNumber_110 (by decide) ?_
        refine z_istore_n (lv2 := [some (.ref 18), some (.int x1), some (.int x2), some (.int 1)]) dX9_takeNumber_114 (by decide) rfl rfl ?_
        refine z_iload_n dX9_takeNumber_115 rfl ?_
        refine z_if_eq (tgt := 125) dX9_takeNumber_116 (by decide) (fun q14 => ?_) (fun q14 => ?_)
        · have hv := hv.1 q14
          refine z_sipush (v := 274) dX9_takeNumber_125 (by decide) ?_
          exact z_ireturn dX9_takeNumber_128 rfl rfl (Nat.le_refl _) (Nat.le_refl _) hv
        · have hv := hv.2 q14
          refine z_sipush (v := 276) dX9_takeNumber_119 (by decide) ?_
          refine z_goto (tgt := 128) dX9_takeNumber_122 (by decide) ?_
          exact z_ireturn dX9_takeNumber_128 rfl rfl (Nat.le_refl _) (Nat.le_refl _) hv
  · have hv := hv.2 q1
    refine z_aload_n dX9_takeNumber_21 rfl ?_
    refine z_getP dX9_takeNumber_22 zf_X9_36 zn_18 zo_18 (fun _ _ _ _ _ => rfl) (hP 18 0 1 zp_18_0) ?_
    refine z_aload_n dX9_takeNumber_25 rfl ?_
    refine z_getI dX9_takeNumber_26 zf_X9_33 zn_18 zo_18 (fun _ _ _ _ _ => rfl) ?_
    obtain ⟨h15, hv⟩ := hv
    refine z_callV (As := [.int (I 18 6)]) (st := []) dX9_takeNumber_29 zl_X9_60 zv_X8_at (by decide) rfl zn_1 zo_1 rfl rfl (Nat.le_of_ble_eq_true rfl) ⟨Nat.le_refl _, Nat.le_refl _⟩ ⟨Nat.le_refl _, Nat.le_refl _⟩ (sp_X8_at hP h15 (K := fun r I' L' P' => cAt I (I 18 6) = r ∧ I = I' ∧ L = L' ∧ P = P') ⟨rfl, rfl, rfl, rfl⟩) (fun v1 I2 L2 P2 nx1 q17 => ?_)
    obtain ⟨rfl, r16, rfl, rfl, rfl, rfl, rfl⟩ := q17
    refine z_callS (As := [.int (cAt I (I 18 6))]) (st := []) dX9_takeNumber_32 zl_X9_70 zs_X9_isDigit rfl rfl (Nat.le_of_ble_eq_true rfl) ⟨Nat.le_refl _, Nat.le_refl _⟩ ⟨Nat.le_refl _, Nat.le_refl _⟩ (sp_X9_isDigit hP (K := fun r I' L' P' => bP (isDg (cAt I (I 18 6))) = r ∧ I = I' ∧ L = L' ∧ P = P') ⟨rfl, rfl, rfl, rfl⟩) (fun v1 I2 L2 P2 nx1 q19 => ?_)
    obtain ⟨rfl, r18, rfl, rfl, rfl, rfl, rfl⟩ := q19
    refine z_if_eq (tgt := 71) dX9_takeNumber_35 (by decide) (fun q20 => ?_) (fun q20 => ?_)
    · have hv := hv.1 q20
      refine z_aload_n dX9_takeNumber_71 rfl ?_
      refine z_getP dX9_takeNumber_72 zf_X9_26 zn_18 zo_18 (fun _ _ _ _ _ => rfl) (hP 18 4 22 zp_18_4) ?_
      refine z_aload_n dX9_takeNumber_75 rfl ?_
      refine z_getI dX9_takeNumber_76 zf_X9_29 zn_18 zo_18 (fun _ _ _ _ _ => rfl) ?_
      refine z_iload_n dX9_takeNumber_79 rfl ?_
      refine z_i2l dX9_takeNumber_80 ?_
      obtain ⟨h21, hv⟩ := hv
      refine z_lastore dX9_takeNumber_81 zn_22 zh_22 h21 (z_nmL (fun L23 e22 => ?_))
      have hv := hv L23 e22
      refine z_aload_n dX9_takeNumber_82 rfl ?_
      refine z_getI dX9_takeNumber_83 zf_X9_33 zn_18 zo_18 (fun _ _ _ _ _ => rfl) ?_
      refine z_iload_n dX9_takeNumber_86 rfl ?_
      refine z_isub dX9_takeNumber_87 ?_
      refine z_iconst (v := 4) dX9_takeNumber_88 (by decide) ?_
      refine z_icmp_gt (tgt := 109) dX9_takeNumber_89 (by decide) (fun q24 => ?_) (fun q24 => ?_)
      · have hv := hv.1 q24
        refine z_iconst (v := 1) dX9_takeNumber_109 (by decide) ?_
        refine z_goto (tgt := 114) dX9_takeNumber_110 (by decide) ?_
        refine z_istore_n (lv2 := [some (.ref 18), some (.int x1), some (.int x2), some (.int 1)]) dX9_takeNumber_114 (by decide) rfl rfl ?_
        refine z_iload_n dX9_takeNumber_115 rfl ?_
        refine z_if_eq (tgt := 125) dX9_takeNumber_116 (by decide) (fun q25 => ?_) (fun q25 => ?_)
        · have hv := hv.1 q25
          refine z_sipush (v := 274) dX9_takeNumber_125 (by decide) ?_
          exact z_ireturn dX9_takeNumber_128 rfl rfl (Nat.le_refl _) (Nat.le_refl _) hv
        · have hv := hv.2 q25
          refine z_sipush (v := 276) dX9_takeNumber_119 (by decide) ?_
          refine z_goto (tgt := 128) dX9_takeNumber_122 (by decide) ?_
          exact z_ireturn dX9_takeNumber_128 rfl rfl (Nat.le_refl _) (Nat.le_refl _) hv
      · have hv := hv.2 q24
        refine z_aload_n dX9_takeNumber_92 rfl ?_
        refine z_getP dX9_takeNumber_93 zf_X9_36 zn_18 zo_18 (fun _ _ _ _ _ => rfl) (hP 18 0 1 zp_18_0) ?_
        refine z_aload_n dX9_takeNumber_96 rfl ?_
        refine z_getI dX9_takeNumber_97 zf_X9_33 zn_18 zo_18 (fun _ _ _ _ _ => rfl) ?_
        refine z_callV (As := [.int (I 18 6)]) (st := []) dX9_takeNumber_100 zl_X9_60 zv_X8_at (by decide) rfl zn_1 zo_1 rfl rfl (Nat.le_of_ble_eq_true rfl) ⟨Nat.le_refl _, Nat.le_refl _⟩ ⟨Nat.le_refl _, Nat.le_refl _⟩ (sp_X8_at hP h15 (K := fun r I' L' P' => cAt I (I 18 6) = r ∧ I = I' ∧ L23 = L' ∧ P = P') ⟨rfl, rfl, rfl, rfl⟩) (fun v1 I2 L2 P2 nx1 q27 => ?_)
        obtain ⟨rfl, r26, rfl, rfl, rfl, rfl, rfl⟩ := q27
        refine z_callS (As := [.int (cAt I (I 18 6))]) (st := []) dX9_takeNumber_103 zl_X9_63 zs_X9_isLetter rfl rfl (Nat.le_of_ble_eq_true rfl) ⟨Nat.le_refl _, Nat.le_refl _⟩ ⟨Nat.le_refl _, Nat.le_refl _⟩ (sp_X9_isLetter hP (K := fun r I' L' P' => bP (isLt (cAt I (I 18 6))) = r ∧ I = I' ∧ L23 = L' ∧ P = P') ⟨rfl, rfl, rfl, rfl⟩) (fun v1 I2 L2 P2 nx1 q29 => ?_)
        obtain ⟨rfl, r28, rfl, rfl, rfl, rfl, rfl⟩ := q29
        refine z_if_eq (tgt := 113) dX9_takeNumber_106 (by decide) (fun q30 => ?_) (fun q30 => ?_)
        · have hv := hv.1 q30
          refine z_iconst (v := 0) dX9_takeNumber_113 (by decide) ?_
          refine z_istore_n (lv2 := [some (.ref 18), some (.int x1), some (.int x2), some (.int 0)]) dX9_takeNumber_114 (by decide) rfl rfl ?_
          refine z_iload_n dX9_takeNumber_115 rfl ?_
          refine z_if_eq (tgt := 125) dX9_takeNumber_116 (by decide) (fun q31 => ?_) (fun q31 => ?_)
          · have hv := hv.1 q31
            refine z_sipush (v := 274) dX9_takeNumber_125 (by decide) ?_
            exact z_ireturn dX9_takeNumber_128 rfl rfl (Nat.le_refl _) (Nat.le_refl _) hv
          · have hv := hv.2 q31
            refine z_sipush (v := 276) dX9_takeNumber_119 (by decide) ?_
            refine z_goto (tgt := 128) dX9_takeNumber_122 (by decide) ?_
            exact z_ireturn dX9_takeNumber_128 rfl rfl (Nat.le_refl _) (Nat.le_refl _) hv
        · have hv := hv.2 q30
          refine z_iconst (v := 1) dX9_takeNumber_109 (by decide) ?_
          refine z_goto (tgt := 114) dX9_takeNumber_110 (by decide) ?_
          refine z_istore_n (lv2 := [some (.ref 18), some (.int x1), some (.int x2), some (.int 1)]) dX9_takeNumber_114 (by decide) rfl rfl ?_
          refine z_iload_n dX9_takeNumber_115 rfl ?_
          refine z_if_eq (tgt := 125) dX9_takeNumber_116 (by decide) (fun q32 => ?_) (fun q32 => ?_)
          · have hv := hv.1 q32
            refine z_sipush (v := 274) dX9_takeNumber_125 (by decide) ?_
            exact z_ireturn dX9_takeNumber_128 rfl rfl (Nat.le_refl _) (Nat.le_refl _) hv
          · have hv := hv.2 q32
            refine z_sipush (v := 276) dX9_takeNumber_119 (by decide) ?_
            refine z_goto (tgt := 128) dX9_takeNumber_122 (by decide) ?_
            exact z_ireturn dX9_takeNumber_128 rfl rfl (Nat.le_refl _) (Nat.le_refl _) hv
    · have hv := hv.2 q20
      refine z_iload_n dX9_takeNumber_38 rfl ?_
      refine z_bipush (v := 10) dX9_takeNumber_39 (by decide) ?_
      refine z_imul dX9_takeNumber_41 ?_
      refine z_aload_n dX9_takeNumber_42 rfl ?_
      refine z_getP dX9_takeNumber_43 zf_X9_36 zn_18 zo_18 (fun _ _ _ _ _ => rfl) (hP 18 0 1 zp_18_0) ?_
      refine z_aload_n dX9_takeNumber_46 rfl ?_
      refine z_getI dX9_takeNumber_47 zf_X9_33 zn_18 zo_18 (fun _ _ _ _ _ => rfl) ?_
      refine z_callV (As := [.int (I 18 6)]) (st := [.int (x2 * 10)]) dX9_takeNumber_50 zl_X9_60 zv_X8_at (by decide) rfl zn_1 zo_1 rfl rfl (Nat.le_of_ble_eq_true rfl) ⟨Nat.le_refl _, Nat.le_refl _⟩ ⟨Nat.le_refl _, Nat.le_refl _⟩ (sp_X8_at hP h15 (K := fun r I' L' P' => cAt I (I 18 6) = r ∧ I = I' ∧ L = L' ∧ P = P') ⟨rfl, rfl, rfl, rfl⟩) (fun v1 I2 L2 P2 nx1 q34 => ?_)
      obtain ⟨rfl, r33, rfl, rfl, rfl, rfl, rfl⟩ := q34
      refine z_iadd dX9_takeNumber_53 ?_
      refine z_bipush (v := 48) dX9_takeNumber_54 (by decide) ?_
      refine z_isub dX9_takeNumber_56 ?_
      refine z_istore_n (lv2 := [some (.ref 18), some (.int x1), some (.int (((x2 * 10) + (cAt I (I 18 6))) - 48)), none]) dX9_takeNumber_57 (by decide) rfl rfl ?_
      refine z_aload_n dX9_takeNumber_58 rfl ?_
      refine z_dup dX9_takeNumber_59 rfl ?_
      refine z_getI dX9_takeNumber_60 zf_X9_33 zn_18 zo_18 (fun _ _ _ _ _ => rfl) ?_
      refine z_iconst (v := 1) dX9_takeNumber_63 (by decide) ?_
      refine z_iadd dX9_takeNumber_64 ?_
      refine z_putI dX9_takeNumber_65 zf_X9_33 zn_18 zo_18 (Or.inl rfl) (fun _ _ _ _ _ => rfl) rfl rfl (z_nmI (fun I35 e36 => ?_))
      have hv := hv I35 e36
      refine z_goto (tgt := 7) dX9_takeNumber_68 (by decide) ?_
      exact hv
abbrev v_X9_takeNumber (d : Nat) (Q : zQt)  (I : zI) (L : zL) (P : zP) : Prop :=
  gw_X9_takeNumber (d + 1) Q 7 [some (.ref 18), some (.int (I 18 6)), some (.int 0), none] [] I L P
set_option maxRecDepth 20000 in
theorem g_X9_takeNumber {d : Nat} {Q : zQt}  {I : zI} {L : zL} {P : zP} (hP : zPk P) (hv : v_X9_takeNumber d Q  I L P) : zM zm_X9_takeNumber (d + 1) 0 0 [.ref 18] I L P 205 Q := by
  unfold v_X9_takeNumber at hv
  refine zM_of (lv0 := [some (.ref 18), none, none, none]) (by decide +kernel) (Nat.le_of_ble_eq_true rfl) rfl ?_
  refine z_aload_n dX9_takeNumber_0 rfl ?_
  refine z_getI dX9_takeNumber_1 zf_X9_33 zn_18 zo_18 (fun _ _ _ _ _ => rfl) ?_
  refine z_istore_n (lv2 := [some (.ref 18), some (.int (I 18 6)), none, none]) dX9_takeNumber_4 (by decide) rfl rfl ?_
  refine z_iconst (v := 0) dX9_takeNumber_5 (by decide) ?_
  refine z_istore_n (lv2 := [some (.ref 18), some (.int (I 18 6)), some (.int 0), none]) dX9_takeNumber_6 (by decide) rfl rfl ?_
  exact hv
theorem sp_X9_takeNumber (hP : zPk P) (hT : tpR I0 T n) (h1 : ¬ n ≤ tA T n e) (h2 : ¬ isLt (T (tA T n e))) (h3 : isDg (T (tA T n e))) (h6 : I0 18 6 = nI (tA T n e)) (h5 : I0 18 5 = nI c) (hc : c < 1601) (hd : 1 ≤ d) {K : Int32 → zI → zL → zP → Prop}
    (kk : ∀ I L', kFr I0 I → I 18 6 = nI (tE T n e) → tkL T n e c L L' → K (nI (tK T n e)) I L' P) : zMi zm_X9_takeNumber d [.ref 18] I0 L P K := by
  obtain ⟨d, rfl⟩ : ∃ e, d = e + 1 := ⟨d - 1, by omega⟩
  obtain ⟨t1, t2, t3⟩ := tE_d h1 h2 h3
  have hn := hT.1
  have hle := (tE_le (T := T) (n := n) (e := e) (by
      rcases Nat.lt_or_ge e n with z | z
      · omega
      · exact absurd (Nat.le_trans z (rn_ge _ _ _)) h1)).2
  -- the end, at the place where the digits end
  have fin : ∀ m I, tA T n e + m = tE T n e → kFr I0 I → I 18 6 = nI (tA T n e + m) → vp_in (I 18 5) 1601 ∧ ∀ L4 : zL, L4 = zuL L 22 (I 18 5).toNatClampNeg ((dV T (tA T n e) m).toInt64) → ((4 < nI (tA T n e + m) - nI (tA T n e) → K 276 I L4 P) ∧ (¬ 4 < nI (tA T n e + m) - nI (tA T n e) → (bP (isLt (cAt I (nI (tA T n e + m)))) = 0 → K 274 I L4 P) ∧ (¬ bP (isLt (cAt I (nI (tA T n e + m)))) = 0 → K 276 I L4 P))) := by
    intro m I hm hf h6'
    have hT1 := tpR_k hT hf
    have e5 : I 18 5 = nI c := by rw [hf.2 5 (by decide)]; exact h5
    have em : tE T n e - tA T n e = m := by omega
    have ev : dV T (tA T n e) m = tN T n e := by unfold tN; rw [em]
    have h4 : (4 : Int32) < nI m ↔ 4 < m := nI_ltI (a := 4) (by decide) (by omega)
    have lt : isLt (cAt I (nI (tA T n e + m))) ↔ (tE T n e < n ∧ isLt (T (tE T n e))) := by
      rw [hm]
      by_cases z : tE T n e < n
      · rw [cAt_in hT1 z]; exact ⟨fun y => ⟨z, y⟩, fun y => y.2⟩
      · rw [cAt_out hT1 z (by omega)]
        exact ⟨fun y => absurd (show (-1 : Int32) < 97 by decide) y.1, fun y => absurd y.1 z⟩
    rw [e5, nI_cl (by omega), ev]
    refine ⟨nx_in hc (by decide), fun L4 e4 => ?_⟩
    rw [sub_nI, h4]
    have bad : (4 < m ∨ (tE T n e < n ∧ isLt (T (tE T n e)))) → K 276 I L4 P := by
      intro z
      have ek := t2 (by rw [em]; exact z)
      have := kk I L4 hf (by rw [h6', hm]) ⟨by rw [e4]; exact zuL_x, fun _ z => by omega, fun z => by omega⟩
      rw [ek] at this
      exact this
    refine ⟨fun z => bad (Or.inl z), fun z => ⟨fun y => ?_, fun y => bad (Or.inr (lt.mp (bP_n.mp y)))⟩⟩
    have ek := t3 (by rw [em]; exact fun x => x.elim z (fun x => (bP_0.mp y) (lt.mpr x)))
    have := kk I L4 hf (by rw [h6', hm]) ⟨by rw [e4]; exact zuL_x, fun _ z => by omega, fun _ => by rw [e4, zuL_v]⟩
    rw [ek] at this
    exact this
  have key : ∀ f m I, n - (tA T n e + m) = f → tA T n e + m ≤ n → kFr I0 I → I 18 6 = nI (tA T n e + m) → rn (fun k => isDg (T k)) n (tA T n e + m) = tE T n e → gw_X9_takeNumber (d + 1) (fun v I' L' P' nx' => nx' = 205 ∧ ∃ r, v = some (.int r) ∧ K r I' L' P') 7 [some (.ref 18), some (.int (nI (tA T n e))), some (.int (dV T (tA T n e) m)), none] [] I L P := by
    intro f
    induction f with
    | zero =>
      intro m I hm hle hf h6' hr
      have hT1 := tpR_k hT hf
      obtain ⟨f1, f2⟩ := fin m I (by rw [← hr, rn_0 (fun z => by omega)]) hf h6'
      refine g_X9_takeNumber_7 hP ⟨fun _ => ?_, fun q => absurd (by rw [hT1.2.1, h6']; exact nI_le (by omega) (by omega)) q⟩
      rw [h6']
      refine ⟨f1, fun L4 e4 => ?_⟩
      obtain ⟨y1, y2⟩ := f2 L4 e4
      exact ⟨fun z => ⟨fun x => absurd x (by decide), fun _ => qi (y1 z)⟩, fun z => ⟨tpR_v hT1, fun x => ⟨fun _ => qi ((y2 z).1 x), fun w => absurd rfl w⟩, fun x => ⟨fun w => absurd w (by decide), fun _ => qi ((y2 z).2 x)⟩⟩⟩
    | succ f ih =>
      intro m I hm hle hf h6' hr
      have hT1 := tpR_k hT hf
      have hlt : tA T n e + m < n := by omega
      refine g_X9_takeNumber_7 hP ⟨fun q => absurd q (by rw [hT1.2.1, h6']; exact nI_ge hlt (by omega)), fun _ => ⟨tpR_v hT1, ?_⟩⟩
      rw [h6']
      refine ⟨fun q => ?_, fun q I1 e1 => ?_⟩
      · obtain ⟨f1, f2⟩ := fin m I (by rw [← hr, rn_0 (fun z => (bP_0.mp q) (by rw [cAt_in hT1 hlt]; exact z.2))]) hf h6'
        refine ⟨f1, fun L4 e4 => ?_⟩
        obtain ⟨y1, y2⟩ := f2 L4 e4
        exact ⟨fun z => ⟨fun x => absurd x (by decide), fun _ => qi (y1 z)⟩, fun z => ⟨fun x => ⟨fun _ => qi ((y2 z).1 x), fun w => absurd rfl w⟩, fun x => ⟨fun w => absurd w (by decide), fun _ => qi ((y2 z).2 x)⟩⟩⟩
      · rw [cAt_in hT1 hlt, bP_n] at q
        rw [cAt_in hT1 hlt]
        subst e1
        have ed : dV T (tA T n e) m * 10 + T (tA T n e + m) - 48 = dV T (tA T n e) (m + 1) := by
          show _ = (10 * dV T (tA T n e) m + T (tA T n e + m)) - 48
          rw [Int32.mul_comm]
        rw [ed]
        refine ih (m + 1) _ (by omega) (by omega) (kFr_s hf) (by rw [zuI_v, nI_1]; rfl) ?_
        rw [← Nat.add_assoc, ← rn_s (p := fun k => isDg (T k)) hlt q, hr]
  refine g_X9_takeNumber hP ?_
  unfold v_X9_takeNumber
  rw [h6]
  exact key (n - tA T n e) 0 I0 rfl (by rw [Nat.add_zero]; omega) (kFr_rf _) h6 t1.symm
abbrev gw_X9_take (d : Nat) (Q : zQt) (pc : Nat) (lv : zV) (st : List Value) (I : zI) (L : zL) (P : zP) : Prop := zW zm_X9_take (zRm d 0 0) 0 0 Q pc lv st I L P 205 0 0
abbrev v_X9_take (d : Nat) (Q : zQt)  (I : zI) (L : zL) (P : zP) : Prop :=
  vp_in (I 1 1) 1601 ∧
  ((¬ (cAt I (I 18 6)) = (-1) →
    (((bP (isLt (cAt I (I 18 6)))) = 0 →
      (((bP (isDg (cAt I (I 18 6)))) = 0 →
        ∀ I11 : zI, I11 = zuI I 18 6 ((I 18 6) + 1) →
        zsS 1000001 ∧
        zMi zm_J0_indexOf_0f7a4 d [.ref 1000001, .int ((((cAt I (I 18 6)) : Int32).toUInt32 % 65536).toInt32)] I11 L P (fun r18 I14 L15 P16 =>
          ((r18 < 0 →
            Q (some (.int 276)) I14 L15 P16 205
          ) ∧ (¬ r18 < 0 →
            Q (some (.int (cAt I (I 18 6)))) I14 L15 P16 205
          ))
        )
      ) ∧ (¬ (bP (isDg (cAt I (I 18 6)))) = 0 →
        zMi zm_X9_takeNumber d [.ref 18] I L P (fun r24 I20 L21 P22 =>
          Q (some (.int r24)) I20 L21 P22 205
        )
      ))
    ) ∧ (¬ (bP (isLt (cAt I (I 18 6)))) = 0 →
      zMi zm_X9_takeWord d [.ref 18] I L P (fun r29 I25 L26 P27 =>
        Q (some (.int r29)) I25 L26 P27 205
      )
    ))
  ) ∧ ((cAt I (I 18 6)) = (-1) →
    Q (some (.int 275)) I L P 205
  ))
set_option maxRecDepth 20000 in
theorem g_X9_take {d : Nat} {Q : zQt}  {I : zI} {L : zL} {P : zP} (hP : zPk P) (hv : v_X9_take d Q  I L P) : zM zm_X9_take (d + 1) 0 0 [.ref 18] I L P 205 Q := by
  unfold v_X9_take at hv
  refine zM_of (lv0 := [some (.ref 18), none]) (by decide +kernel) (Nat.le_of_ble_eq_true rfl) rfl ?_
  refine z_aload_n dX9_take_0 rfl ?_
  refine z_getP dX9_take_1 zf_X9_36 zn_18 zo_18 (fun _ _ _ _ _ => rfl) (hP 18 0 1 zp_18_0) ?_
  refine z_aload_n dX9_take_4 rfl ?_
  refine z_getI dX9_take_5 zf_X9_33 zn_18 zo_18 (fun _ _ _ _ _ => rfl) ?_
  obtain ⟨h1, hv⟩ := hv
  refine z_callV (As := [.int (I 18 6)]) (st := []) dX9_take_8 zl_X9_60 zv_X8_at (by decide) rfl zn_1 zo_1 rfl rfl (Nat.le_of_ble_eq_true rfl) ⟨Nat.le_refl _, Nat.le_refl _⟩ ⟨Nat.le_refl _, Nat.le_refl _⟩ (sp_X8_at hP h1 (K := fun r I' L' P' => cAt I (I 18 6) = r ∧ I = I' ∧ L = L' ∧ P = P') ⟨rfl, rfl, rfl, rfl⟩) (fun v1 I2 L2 P2 nx1 q3 => ?_)
  obtain ⟨rfl, r2, rfl, rfl, rfl, rfl, rfl⟩ := q3
  refine z_istore_n (lv2 := [some (.ref 18), some (.int (cAt I (I 18 6)))]) dX9_take_11 (by decide) rfl rfl ?_
  refine z_iload_n dX9_take_12 rfl ?_
  refine z_iconst (v := (-1)) dX9_take_13 (by decide) ?_
  refine z_icmp_ne (tgt := 21) dX9_take_14 (by decide) (fun q4 => ?_) (fun q4 => ?_)
  · have hv := hv.1 q4
    refine z_iload_n dX9_take_21 rfl ?_
    refine z_callS (As := [.int (cAt I (I 18 6))]) (st := []) dX9_take_22 zl_X9_63 zs_X9_isLetter rfl rfl (Nat.le_of_ble_eq_true rfl) ⟨Nat.le_refl _, Nat.le_refl _⟩ ⟨Nat.le_refl _, Nat.le_refl _⟩ (sp_X9_isLetter hP (K := fun r I' L' P' => bP (isLt (cAt I (I 18 6))) = r ∧ I = I' ∧ L = L' ∧ P = P') ⟨rfl, rfl, rfl, rfl⟩) (fun v1 I2 L2 P2 nx1 q6 => ?_)
    obtain ⟨rfl, r5, rfl, rfl, rfl, rfl, rfl⟩ := q6
    refine z_if_eq (tgt := 33) dX9_take_25 (by decide) (fun q7 => ?_) (fun q7 => ?_)
    · have hv := hv.1 q7
      refine z_iload_n dX9_take_33 rfl ?_
      refine z_callS (As := [.int (cAt I (I 18 6))]) (st := []) dX9_take_34 zl_X9_70 zs_X9_isDigit rfl rfl (Nat.le_of_ble_eq_true rfl) ⟨Nat.le_refl _, Nat.le_refl _⟩ ⟨Nat.le_refl _, Nat.le_refl _⟩ (sp_X9_isDigit hP (K := fun r I' L' P' => bP (isDg (cAt I (I 18 6))) = r ∧ I = I' ∧ L = L' ∧ P = P') ⟨rfl, rfl, rfl, rfl⟩) (fun v1 I2 L2 P2 nx1 q9 => ?_)
      obtain ⟨rfl, r8, rfl, rfl, rfl, rfl, rfl⟩ := q9
      refine z_if_eq (tgt := 45) dX9_take_37 (by decide) (fun q10 => ?_) (fun q10 => ?_)
      · have hv := hv.1 q10
        refine z_aload_n dX9_take_45 rfl ?_
        refine z_dup dX9_take_46 rfl ?_
        refine z_getI dX9_take_47 zf_X9_33 zn_18 zo_18 (fun _ _ _ _ _ => rfl) ?_
        refine z_iconst (v := 1) dX9_take_50 (by decide) ?_
        refine z_iadd dX9_take_51 ?_
        refine z_putI dX9_take_52 zf_X9_33 zn_18 zo_18 (Or.inl rfl) (fun _ _ _ _ _ => rfl) rfl rfl (z_nmI (fun I11 e12 => ?_))
        have hv := hv I11 e12
        refine z_ldcS1 rfl dX9_take_55 ?_
        refine z_iload_n dX9_take_57 rfl ?_
        refine z_i2c dX9_take_58 ?_
        obtain ⟨h13, hv⟩ := hv
        refine z_callVS (As := [.int ((((cAt I (I 18 6)) : Int32).toUInt32 % 65536).toInt32)]) (st := []) dX9_take_59 zl_X9_78 zv_J0_indexOf_0f7a4 rfl h13 rfl rfl (Nat.le_of_ble_eq_true rfl) ⟨Nat.le_refl _, Nat.le_refl _⟩ ⟨Nat.le_refl _, Nat.le_refl _⟩ hv (fun v1 I14 L15 P16 nx1 q17 => ?_)
        obtain ⟨rfl, r18, rfl, hv⟩ := q17
        refine z_if_lt (tgt := 69) dX9_take_62 (by decide) (fun q19 => ?_) (fun q19 => ?_)
        · have hv := hv.1 q19
          refine z_sipush (v := 276) dX9_take_69 (by decide) ?_
          exact z_ireturn dX9_take_72 rfl rfl (Nat.le_refl _) (Nat.le_refl _) hv
        · have hv := hv.2 q19
          refine z_iload_n dX9_take_65 rfl ?_
          refine z_goto (tgt := 72) dX9_take_66 (by decide) ?_
          exact z_ireturn dX9_take_72 rfl rfl (Nat.le_refl _) (Nat.le_refl _) hv
      · have hv := hv.2 q10
        refine z_aload_n dX9_take_40 rfl ?_
        refine z_callV (As := []) (st := []) dX9_take_41 zl_X9_73 zv_X9_takeNumber (by decide) rfl zn_18 zo_18 rfl rfl (Nat.le_of_ble_eq_true rfl) ⟨Nat.le_refl _, Nat.le_refl _⟩ ⟨Nat.le_refl _, Nat.le_refl _⟩ hv (fun v1 I20 L21 P22 nx1 q23 => ?_)
        obtain ⟨rfl, r24, rfl, hv⟩ := q23
        exact z_ireturn dX9_take_44 rfl rfl (Nat.le_refl _) (Nat.le_refl _) hv
    · have hv := hv.2 q7
      refine z_aload_n dX9_take_28 rfl ?_
      refine z_callV (As := []) (st := []) dX9_take_29 zl_X9_67 zv_X9_takeWord (by decide) rfl zn_18 zo_18 rfl rfl (Nat.le_of_ble_eq_true rfl) ⟨Nat.le_refl _, Nat.le_refl _⟩ ⟨Nat.le_refl _, Nat.le_refl _⟩ hv (fun v1 I25 L26 P27 nx1 q28 => ?_)
      obtain ⟨rfl, r29, rfl, hv⟩ := q28
      exact z_ireturn dX9_take_32 rfl rfl (Nat.le_refl _) (Nat.le_refl _) hv
  · have hv := hv.2 q4
    refine z_sipush (v := 275) dX9_take_17 (by decide) ?_
    exact z_ireturn dX9_take_20 rfl rfl (Nat.le_refl _) (Nat.le_refl _) hv
theorem sp_X9_take (hP : zPk P) (hT : tpR I0 T n) (hw : wdR L) (he : e ≤ n) (h6 : I0 18 6 = nI (tA T n e)) (h5 : I0 18 5 = nI c) (hc : c < 1601) (hd : 5 ≤ d) {K : Int32 → zI → zL → zP → Prop}
    (kk : ∀ I L', kFr I0 I → I 18 6 = nI (tE T n e) → tkL T n e c L L' → K (nI (tK T n e)) I L' P) : zMi zm_X9_take d [.ref 18] I0 L P K := by
  obtain ⟨d, rfl⟩ : ∃ e, d = e + 1 := ⟨d - 1, by omega⟩
  have hn := hT.1
  have hA := (tA_le (T := T) he).2
  refine g_X9_take hP ⟨tpR_v hT, ?_⟩
  rw [h6]
  by_cases h1 : n ≤ tA T n e
  · obtain ⟨t1, t2⟩ := tE_0 h1
    rw [cAt_out hT (by omega) (by omega)]
    refine ⟨fun q => absurd rfl q, fun _ => qi ?_⟩
    have := kk I0 L (kFr_rf _) (by rw [h6, t1]; exact nIe (by omega)) ⟨fun _ _ _ => rfl, fun _ z => by omega, fun z => by omega⟩
    rw [t2] at this
    exact this
  · rw [cAt_in hT (by omega)]
    obtain ⟨f, hf, ef⟩ := T_rg hT (show tA T n e < n by omega)
    have nm1 : ¬ T (tA T n e) = -1 := by
      rw [ef]
      intro z
      have := congrArg Int32.toInt z
      rw [nI_toInt (by omega)] at this
      have h1 : (-1 : Int32).toInt = -1 := by decide
      omega
    refine ⟨fun _ => ⟨fun q => ⟨fun q2 I1 e1 => ⟨Or.inr rfl, ?_⟩, fun q2 => ?_⟩, fun q => ?_⟩, fun q => absurd q nm1⟩
    · rw [bP_0] at q q2
      obtain ⟨t1, t2, t3⟩ := tE_s h1 q q2
      have e6 : I1 18 6 = nI (tE T n e) := by rw [e1, zuI_v, nI_1, t1]
      have hk : kFr I0 I1 := by rw [e1]; exact kFr_s (kFr_rf _)
      rw [ef]
      refine sp_indexOf hP hf (by omega) (fun z => ⟨fun _ => qi ?_, fun y => absurd (by decide) y⟩) (fun z j hj => ⟨fun y => absurd y (nI_pos (by omega)), fun _ => qi ?_⟩)
      · rw [← ef] at z
        have ek := t3 z
        have := kk I1 L hk e6 ⟨fun _ _ _ => rfl, fun _ z => by omega, fun z => by omega⟩
        rw [ek] at this
        exact this
      · rw [← ef] at z
        have ek := t2 z
        have cl : (T (tA T n e)).toNatClampNeg = f := by rw [ef, nI_cl (by omega)]
        have := kk I1 L hk e6 ⟨fun _ _ _ => rfl, fun z _ => by rw [ek, cl] at z; omega, fun z => by rw [ek, cl] at z; omega⟩
        rw [ek, cl] at this
        exact this
    · rw [bP_0] at q
      rw [bP_n] at q2
      exact sp_X9_takeNumber hP hT h1 q q2 h6 h5 hc (by omega) (fun I L' a b c => qi (kk I L' a b c))
    · rw [bP_n] at q
      exact sp_X9_takeWord hP hT hw h1 q h6 h5 hc (by omega) (fun I L' a b c => qi (kk I L' a b c))
end TT
