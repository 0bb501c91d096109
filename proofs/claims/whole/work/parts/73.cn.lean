/-! ===== the class: when ===== -/
theorem cP_split (po f : Nat → Prop) : ∀ N, cP po N = cP (fun w => po w ∧ ¬ f w) N + cP (fun w => po w ∧ f w) N
  | 0 => rfl
  | N + 1 => by
    have ih := cP_split po f N
    by_cases h : po N
    · by_cases hf : f N
      · rw [cP_t h, cP_f (f := fun w => po w ∧ ¬ f w) (fun z => z.2 hf), cP_t (f := fun w => po w ∧ f w) ⟨h, hf⟩]; omega
      · rw [cP_t h, cP_t (f := fun w => po w ∧ ¬ f w) ⟨h, hf⟩, cP_f (f := fun w => po w ∧ f w) (fun z => hf z.2)]; omega
    · rw [cP_f h, cP_f (f := fun w => po w ∧ ¬ f w) (fun z => h z.1), cP_f (f := fun w => po w ∧ f w) (fun z => h z.1)]; exact ih
/-- nobody is struck just where the number stays -/
theorem same_n {M : zI} {po : Nat → Prop} {gn : Nat} (hN : vN M ≤ 256) : (nI (cP (aPo M po gn) (vN M)) = nI (cP po (vN M))) ↔ cP (fun w => po w ∧ ¬ aGs M po gn w = aGs M po gn (vTw M)) (vN M) = 0 := by
  have h := cP_split po (fun w => aGs M po gn w = aGs M po gn (vTw M)) (vN M)
  have e : cP (fun w => po w ∧ aGs M po gn w = aGs M po gn (vTw M)) (vN M) = cP (aPo M po gn) (vN M) := rfl
  have l1 := cP_le po (vN M)
  have l2 := cP_le (aPo M po gn) (vN M)
  rw [nI_eq (by omega) (by omega)]
  omega
/-- what stands at the beginning of a trial -/
theorem b_follow {d : Nat} {M I : zI} {L : zL} {P : zP} {t gn : Nat} {po : Nat → Prop} {g : Nat → Nat → Nat} (hP : zPk P) (hV : sV P 73 85 74 t M I po g gn) (hd : 1 ≤ d) {K : zI → zL → zP → Prop}
    (kk : ∀ I', cFr [86, 87] I I' → sV (zuP P 86 1 (some t)) 86 87 74 t M I' po g gn → I' 86 3 = nI (cP po (vN M)) → K I' L (zuP P 86 1 (some t))) : zMv zm_X6_follow d [.ref 86, .ref 73] I L P K := by
  obtain ⟨⟨w1, w2, w3, w4, w5, w6, w7⟩, hg, ⟨h4, hgn⟩, htw⟩ := hV
  have h1 : sc 86 87 74 := Or.inr (Or.inl ⟨rfl, rfl, rfl⟩)
  have hil := w6.1
  unfold il at hil
  have hnp := w6.2.1
  refine sp_X6_follow hP h1 w1 (by decide) w2 w5 hd (fun I' f1 f2 f3 f4 f5 => kk I' f1 ⟨⟨h1, f2, w3, w4, zuP_v _ _ _ _, iH_c w6 (f1 t (by simp only [List.mem_cons, List.not_mem_nil, or_false]; omega)), fun p hp => cG_c (w7 p hp) (f1 (74 + 2 + p) (by simp only [List.mem_cons, List.not_mem_nil, or_false]; omega))⟩, hg, ⟨by rw [f3]; exact h4, hgn⟩, htw⟩ (by rw [f2.1, lP_len]))
abbrev gw_X11_when (d : Nat) (Q : zQt) (pc : Nat) (lv : zV) (st : List Value) (I : zI) (L : zL) (P : zP) : Prop := zW zm_X11_when (zRm d 0 0) 0 0 Q pc lv st I L P 205 0 0
abbrev v_X11_when_41 (d : Nat) (Q : zQt) (p1 : Int32) (x2 : Int32) (I : zI) (L : zL) (P : zP) : Prop :=
  ((300 < x2 →
    Q (some (.int (-1))) I L P 205
  ) ∧ (¬ 300 < x2 →
    zMi zm_X4_pass d [.ref 23, .ref 86] I L P (fun r20 I16 L17 P18 =>
      ((¬ ((r20 >>> (p1 &&& 31) : Int32) &&& 1 : Int32) = 1 →
        ((¬ r20 = 0 →
          gw_X11_when (d + 1) Q 41 [some (.ref 0), some (.int p1), some (.int (x2 + 1)), none, none] [] I16 L17 P18
        ) ∧ (r20 = 0 →
          zPk P18 ∧
          ((¬ (I16 86 3) = (I 86 3) →
            gw_X11_when (d + 1) Q 41 [some (.ref 0), some (.int p1), some (.int (x2 + 1)), none, none] [] I16 L17 P18
          ) ∧ ((I16 86 3) = (I 86 3) →
            Q (some (.int (-1))) I16 L17 P18 205
          ))
        ))
      ) ∧ (((r20 >>> (p1 &&& 31) : Int32) &&& 1 : Int32) = 1 →
        Q (some (.int x2)) I16 L17 P18 205
      ))
    )
  ))
set_option maxRecDepth 20000 in
theorem g_X11_when_41 {d : Nat} {Q : zQt} {p1 : Int32} {x2 : Int32} {I : zI} {L : zL} {P : zP} (hP : zPk P) (hv : v_X11_when_41 d Q p1 x2 I L P) : gw_X11_when (d + 1) Q 41 [some (.ref 0), some (.int p1), some (.int x2), none, none] [] I L P := by
  unfold v_X11_when_41 at hv
  refine z_iload_n dX11_when_41 rfl ?_
  refine z_sipush (v := 300) dX11_when_42 (by decide) ?_
  refine z_icmp_gt (tgt := 105) dX11_when_45 (by decide) (fun q15 => ?_) (fun q15 => ?_)
  · have hv := hv.1 q15
    refine z_iconst (v := (-1)) dX11_when_105 (by decide) ?_
    exact z_ireturn dX11_when_106 rfl rfl (Nat.le_refl _) (Nat.le_refl _) hv
  · have hv := hv.2 q15
    refine z_aload_n dX11_when_48 rfl ?_
    refine z_getP dX11_when_49 zf_X11_65 zn_0 zo_0 (fun _ _ _ _ _ => rfl) (hP 0 7 86 zp_0_7) ?_
    refine z_getI dX11_when_52 zf_X11_135 zn_86 zo_86 (fun _ _ _ _ _ => rfl) ?_
    refine z_istore_n (lv2 := [some (.ref 0), some (.int p1), some (.int x2), some (.int (I 86 3)), none]) dX11_when_55 (by decide) rfl rfl ?_
    refine z_aload_n dX11_when_56 rfl ?_
    refine z_getP dX11_when_57 zf_X11_45 zn_0 zo_0 (fun _ _ _ _ _ => rfl) (hP 0 5 23 zp_0_5) ?_
    refine z_aload_n dX11_when_60 rfl ?_
    refine z_getP dX11_when_61 zf_X11_65 zn_0 zo_0 (fun _ _ _ _ _ => rfl) (hP 0 7 86 zp_0_7) ?_
    refine z_callV (As := [.ref 86]) (st := []) dX11_when_64 zl_X11_193 zv_X4_pass (by decide) rfl zn_23 zo_23 rfl rfl (Nat.le_of_ble_eq_true rfl) ⟨Nat.le_refl _, Nat.le_refl _⟩ ⟨Nat.le_refl _, Nat.le_refl _⟩ hv (fun v1 I16 L17 P18 nx1 q19 => ?_)
    obtain ⟨rfl, r20, rfl, hv⟩ := q19
    refine z_istore (lv2 := [some (.ref 0), some (.int p1), some (.int x2), some (.int (I 86 3)), some (.int r20)]) dX11_when_67 (by decide) rfl rfl ?_
    refine z_iload dX11_when_69 rfl ?_
    refine z_iload_n dX11_when_71 rfl ?_
    refine z_ishr dX11_when_72 ?_
    refine z_iconst (v := 1) dX11_when_73 (by decide) ?_
    refine z_iand dX11_when_74 ?_
    refine z_iconst (v := 1) dX11_when_75 (by decide) ?_
    refine z_icmp_ne (tgt := 81) dX11_when_76 (by decide) (fun q21 => ?_) (fun q21 => ?_)
    · have hv := hv.1 q21
      refine z_iload dX11_when_81 rfl ?_
      refine z_if_ne (tgt := 99) dX11_when_83 (by decide) (fun q22 => ?_) (fun q22 => ?_)
      · have hv := hv.1 q22
        refine z_iinc (v2 := x2 + 1) (lv2 := [some (.ref 0), some (.int p1), some (.int (x2 + 1)), some (.int (I 86 3)), some (.int r20)]) dX11_when_99 rfl (by rfl) (by decide) rfl rfl ?_
        refine z_goto (tgt := 41) dX11_when_102 (by decide) ?_
        exact z_sub (by exact ⟨rfl, ⟨rfl, ⟨rfl, trivial⟩⟩⟩) hv
      · have hv := hv.2 q22
        refine z_aload_n dX11_when_86 rfl ?_
        obtain ⟨h23, hv⟩ := hv
        refine z_getP dX11_when_87 zf_X11_65 zn_0 zo_0 (fun _ _ _ _ _ => rfl) (h23 0 7 86 zp_0_7) ?_
        refine z_getI dX11_when_90 zf_X11_135 zn_86 zo_86 (fun _ _ _ _ _ => rfl) ?_
        refine z_iload_n dX11_when_93 rfl ?_
        refine z_icmp_ne (tgt := 99) dX11_when_94 (by decide) (fun q24 => ?_) (fun q24 => ?_)
        · have hv := hv.1 q24
          refine z_iinc (v2 := x2 + 1) (lv2 := [some (.ref 0), some (.int p1), some (.int (x2 + 1)), some (.int (I 86 3)), some (.int r20)]) dX11_when_99 rfl (by rfl) (by decide) rfl rfl ?_
          refine z_goto (tgt := 41) dX11_when_102 (by decide) ?_
          exact z_sub (by exact ⟨rfl, ⟨rfl, ⟨rfl, trivial⟩⟩⟩) hv
        · have hv := hv.2 q24
          refine z_iconst (v := (-1)) dX11_when_97 (by decide) ?_
          exact z_ireturn dX11_when_98 rfl rfl (Nat.le_refl _) (Nat.le_refl _) hv
    · have hv := hv.2 q21
      refine z_iload_n dX11_when_79 rfl ?_
      exact z_ireturn dX11_when_80 rfl rfl (Nat.le_refl _) (Nat.le_refl _) hv
abbrev v_X11_when (d : Nat) (Q : zQt) (p1 : Int32) (I : zI) (L : zL) (P : zP) : Prop :=
  ∃ b1 : Nat, P 0 2 = some b1 ∧
  (b1 < 205 ∧ (zsh b1).1 = 2) ∧
  il b1 ∧
  vp_in (I b1 0) 9 ∧
  (((bP (vp_in p1 (I b1 0).toNatClampNeg)) = 0 →
    Q (some (.int (-1))) I L P 205
  ) ∧ (¬ (bP (vp_in p1 (I b1 0).toNatClampNeg)) = 0 →
    ((¬ (((I 73 4) >>> (p1 &&& 31) : Int32) &&& 1 : Int32) = 1 →
      zMv zm_X6_follow d [.ref 86, .ref 73] I L P (fun I10 L11 P12 =>
        gw_X11_when (d + 1) Q 41 [some (.ref 0), some (.int p1), some (.int 1), none, none] [] I10 L11 P12
      )
    ) ∧ ((((I 73 4) >>> (p1 &&& 31) : Int32) &&& 1 : Int32) = 1 →
      Q (some (.int (-1))) I L P 205
    ))
  ))
set_option maxRecDepth 20000 in
theorem g_X11_when {d : Nat} {Q : zQt} {p1 : Int32} {I : zI} {L : zL} {P : zP} (hP : zPk P) (hv : v_X11_when d Q p1 I L P) : zM zm_X11_when (d + 1) 0 0 [.ref 0, .int p1] I L P 205 Q := by
  unfold v_X11_when at hv
  refine zM_of (lv0 := [some (.ref 0), some (.int p1), none, none, none]) (by decide +kernel) (Nat.le_of_ble_eq_true rfl) rfl ?_
  refine z_aload_n dX11_when_0 rfl ?_
  obtain ⟨b1, h2, hv⟩ := hv
  refine z_getP dX11_when_1 zf_X11_26 zn_0 zo_0 (fun _ _ _ _ _ => rfl) h2 ?_
  refine z_iload_n dX11_when_4 rfl ?_
  obtain ⟨h3, hv⟩ := hv
  obtain ⟨h4, hv⟩ := hv
  obtain ⟨h5, hv⟩ := hv
  refine z_callV (As := [.int p1]) (st := []) dX11_when_5 zl_X11_127 zv_X2_isPerson (by decide) rfl h3.1 h3.2 rfl rfl (Nat.le_of_ble_eq_true rfl) ⟨Nat.le_refl _, Nat.le_refl _⟩ ⟨Nat.le_refl _, Nat.le_refl _⟩ (sp_X2_isPerson hP h4 h5 (K := fun r I' L' P' => bP (vp_in p1 (I b1 0).toNatClampNeg) = r ∧ I = I' ∧ L = L' ∧ P = P') ⟨rfl, rfl, rfl, rfl⟩) (fun v1 I2 L2 P2 nx1 q7 => ?_)
  obtain ⟨rfl, r6, rfl, rfl, rfl, rfl, rfl⟩ := q7
  refine z_if_eq (tgt := 26) dX11_when_8 (by decide) (fun q8 => ?_) (fun q8 => ?_)
  · have hv := hv.1 q8
    refine z_iconst (v := (-1)) dX11_when_26 (by decide) ?_
    exact z_ireturn dX11_when_27 rfl rfl (Nat.le_refl _) (Nat.le_refl _) hv
  · have hv := hv.2 q8
    refine z_aload_n dX11_when_11 rfl ?_
    refine z_getP dX11_when_12 zf_X11_57 zn_0 zo_0 (fun _ _ _ _ _ => rfl) (hP 0 6 73 zp_0_6) ?_
    refine z_getI dX11_when_15 zf_X11_196 zn_73 zo_73 (fun _ _ _ _ _ => rfl) ?_
    refine z_iload_n dX11_when_18 rfl ?_
    refine z_ishr dX11_when_19 ?_
    refine z_iconst (v := 1) dX11_when_20 (by decide) ?_
    refine z_iand dX11_when_21 ?_
    refine z_iconst (v := 1) dX11_when_22 (by decide) ?_
    refine z_icmp_ne (tgt := 28) dX11_when_23 (by decide) (fun q9 => ?_) (fun q9 => ?_)
    · have hv := hv.1 q9
      refine z_aload_n dX11_when_28 rfl ?_
      refine z_getP dX11_when_29 zf_X11_65 zn_0 zo_0 (fun _ _ _ _ _ => rfl) (hP 0 7 86 zp_0_7) ?_
      refine z_aload_n dX11_when_32 rfl ?_
      refine z_getP dX11_when_33 zf_X11_57 zn_0 zo_0 (fun _ _ _ _ _ => rfl) (hP 0 6 73 zp_0_6) ?_
      refine z_callV (As := [.ref 73]) (st := []) dX11_when_36 zl_X11_199 zv_X6_follow (by decide) rfl zn_86 zo_86 rfl rfl (Nat.le_of_ble_eq_true rfl) ⟨Nat.le_refl _, Nat.le_refl _⟩ ⟨Nat.le_refl _, Nat.le_refl _⟩ hv (fun v1 I10 L11 P12 nx1 q13 => ?_)
      obtain ⟨rfl, rfl, hv⟩ := q13
      refine z_iconst (v := 1) dX11_when_39 (by decide) ?_
      refine z_istore_n (lv2 := [some (.ref 0), some (.int p1), some (.int 1), none, none]) dX11_when_40 (by decide) rfl rfl ?_
      exact hv
    · have hv := hv.2 q9
      refine z_iconst (v := (-1)) dX11_when_26 (by decide) ?_
      exact z_ireturn dX11_when_27 rfl rfl (Nat.le_refl _) (Nat.le_refl _) hv
theorem sp_X11_when {d : Nat} {M I : zI} {L : zL} {P : zP} {t st : Nat} {b : Nat → Nat} {cd : Nat → Cd} {g : Nat → Nat → Nat} {x : Int32} (hP : zPk P) (hT : MT M) (ht : P 0 2 = some t) (hR : tR M I t st b cd) (hV : sV P 73 85 74 t M I (vPoss M) g (vGn M)) (hd : 3 ≤ d) {K : Int32 → zI → zL → zP → Prop}
    (k0 : ¬ (∃ v, v < vNp M ∧ x = nI v ∧ ¬ (vGn M).testBit v = true) → K (-1) I L P)
    (kk : ∀ v, v < vNp M → x = nI v → ¬ (vGn M).testBit v = true → ∀ I', cFr [70, 72, 86, 87] I I' → K (aWh M v 300 0 (vPoss M) (vGn M)) I' L (zuP P 86 1 (some t))) : zMi zm_X11_when d [.ref 0, .int x] I L P K := by
  obtain ⟨d, rfl⟩ : ∃ e, d = e + 1 := ⟨d - 1, by omega⟩
  have h0 := hR.1.2.2
  have hnp := hR.1.2.1
  have hil := hR.1.1
  have hil2 := hil
  unfold il at hil2
  have hN : vN M ≤ 256 := pw8 hnp
  have h4 := hV.2.2.1
  have hP1 : zPk (zuP P 86 1 (some t)) := zPk_u (zst_s1 (Or.inr (Or.inl ⟨rfl, rfl, rfl⟩))) hP
  have hsx : ∀ v, v < 8 → ∀ q, q < 256 → ((((nI q >>> (nI v &&& 31) : Int32) &&& 1 : Int32) = 1) ↔ q.testBit v = true) := fun v hv q hq => by rw [nx_bit (by omega) (by omega), bP_1]
  have key : ∀ v, v < vNp M → ∀ res, (∀ I', cFr [70, 72, 86, 87] I I' → K res I' L (zuP P 86 1 (some t))) → ∀ f n po gn J, n + f = 300 → cFr [70, 72, 86, 87] I J → sV (zuP P 86 1 (some t)) 86 87 74 t M J po g gn → J 86 3 = nI (cP po (vN M)) → aWh M v f n po gn = res → gw_X11_when (d + 1) (fun v I' L' P' nx' => nx' = 205 ∧ ∃ r, v = some (.int r) ∧ K r I' L' P') 41 [some (.ref 0), some (.int (nI v)), some (.int (nI (n + 1))), none, none] [] J L (zuP P 86 1 (some t)) := by
    intro v hv res hres f
    induction f with
    | zero =>
      intro n po gn J hn hf hV1 h3 hr
      have hr : (-1 : Int32) = res := hr
      refine g_X11_when_41 hP1 ⟨fun _ => qi (by rw [hr]; exact hres J hf), fun q => absurd ?_ q⟩
      rw [show (300 : Int32) = nI 300 from rfl]; exact nI_lt (by omega) (by omega)
    | succ f ih =>
      intro n po gn J hn hf hV1 h3 hr
      have hR1 : tR M J t st b cd := tR_c hR (fun a h1 h2 => hf a (by simp only [List.mem_cons, List.not_mem_nil, or_false]; omega))
      have hlt : aGs M po gn (vTw M) < 256 := Nat.lt_of_lt_of_le (bset_lt _ _) (pw8 hnp)
      refine g_X11_when_41 hP1 ⟨fun q => absurd q (by rw [show (300 : Int32) = nI 300 from rfl]; exact nI_nlt (by omega) (by decide)), fun _ => b_pass hP1 hT hR1 hV1 (by omega) (fun J1 f1 f2 f3 f4 f5 => ?_)⟩
      have hf1 : cFr [70, 72, 86, 87] I J1 := cFr_tr hf f1
      rw [hsx v (by omega) _ hlt, f3, h3, same_n hN, nI_zero (by omega)]
      refine ⟨fun q => ⟨fun q2 => ?_, fun q2 => ⟨hP1, fun q3 => ?_, fun q3 => ?_⟩⟩, fun q => ?_⟩
      · rw [nI_1]
        rw [aWh_3 q (fun z => q2 z.1)] at hr
        exact ih (n + 1) _ _ J1 (by omega) hf1 f2 f3 hr
      · rw [nI_1]
        rw [aWh_3 q (fun z => q3 z.2)] at hr
        exact ih (n + 1) _ _ J1 (by omega) hf1 f2 f3 hr
      · rw [aWh_2 q ⟨q2, q3⟩] at hr
        exact qi (by rw [hr]; exact hres J1 hf1)
      · rw [aWh_1 q] at hr
        exact qi (by rw [hr]; exact hres J1 hf1)
  refine g_X11_when hP ⟨t, ht, (il_P hil hP).1, hil, by rw [h0]; exact nx_in (by omega) (by decide), ?_⟩
  rw [h0, nI_cl (by omega)]
  refine ⟨fun q => qi (k0 ?_), fun q => ?_⟩
  · rw [bP_0] at q
    rintro ⟨v, h1, rfl, -⟩
    exact q (nx_in h1 (by omega))
  · rw [bP_n] at q
    obtain ⟨v, hv, rfl⟩ := vp_in_of q (by omega)
    rw [h4.1, hsx v (by omega) _ h4.2]
    refine ⟨fun q2 => b_follow hP hV (by omega) (fun I1 f1 f2 f3 => ?_), fun q2 => qi (k0 ?_)⟩
    · exact key v hv _ (fun I' hf => kk v hv rfl q2 I' hf) 300 0 _ _ I1 rfl (cFr_wk f1 (by simp)) f2 f3 rfl
    · rintro ⟨v', h1, h2, h3⟩
      have : v = v' := (nI_eq (by omega) (by omega)).mp h2
      subst this; exact h3 q2
