/-! ===== the class: island; only the text below its size counts ===== -/
section TXD
variable {T T' : Nat → Int32} {n : Nat}
theorem lBad_cg (h : ∀ k, k < n → T k = T' k) : lBad T n = lBad T' n := by funext e; unfold lBad; rw [mis_cg h, tA_cg h]
theorem skF_cg (h : ∀ k, k < n → T k = T' k) : skF T n = skF T' n := by funext k e; unfold skF; rw [tK_cg h, tE_cg h]
theorem aOne_cg (h : ∀ k, k < n → T k = T' k) : aOne T n = aOne T' n := by funext e A; unfold aOne; rw [tK_cg h, tE_cg h, tV_cg h, skF_cg h]
theorem lOne_cg (h : ∀ k, k < n → T k = T' k) : lOne T n = lOne T' n := by funext A e; unfold lOne; rw [tK_cg h, tE_cg h, tV_cg h, tA_cg h, skF_cg h, aOne_cg h, lBad_cg h]
theorem lBl_cg (h : ∀ k, k < n → T k = T' k) : lBl T n = lBl T' n := by funext A e; unfold lBl; rw [tK_cg h, tE_cg h, tV_cg h, tA_cg h, lBad_cg h]
theorem lLaw_cg (h : ∀ k, k < n → T k = T' k) : lLaw T n = lLaw T' n := by funext A e; unfold lLaw; rw [tK_cg h, tE_cg h, lBad_cg h]
theorem lSay_cg (h : ∀ k, k < n → T k = T' k) : lSay T n = lSay T' n := by funext A e; unfold lSay; rw [tK_cg h, fRd_cg h, lBad_cg h]
theorem lSem_cg (h : ∀ k, k < n → T k = T' k) : lSem T n = lSem T' n := by
  funext l
  match l with
  | .inl q => rfl
  | .inr (e, A) =>
    show @ite _ (tK T n e = 59) (Classical.propDecidable _) (.inr (tE T n e, A)) (lBad T n e) = @ite _ (tK T' n e = 59) (Classical.propDecidable _) (.inr (tE T' n e, A)) (lBad T' n e)
    rw [tK_cg h, tE_cg h, lBad_cg h]
theorem rLn_cg (h : ∀ k, k < n → T k = T' k) : rLn T n = rLn T' n := by funext A e; unfold rLn; rw [tK_cg h, tE_cg h, lSem_cg h, lOne_cg h, lBl_cg h, lLaw_cg h, lSay_cg h, lBad_cg h]
theorem rIs_cg (h : ∀ k, k < n → T k = T' k) : ∀ f A e, rIs T n f A e = rIs T' n f A e
  | 0, _, _ => rfl
  | f + 1, A, e => by
    unfold rIs
    rw [tK_cg h, rLn_cg h]
    by_cases c : tK T' n e = 275
    · rw [if_pos c, if_pos c]
    · rw [if_neg c, if_neg c]
      match rLn T' n A e with
      | .inl q => rfl
      | .inr (e', A') => exact rIs_cg h f A' e'
end TXD
section QM
variable {d : Nat} {Q : zQt} {I : zI} {L : zL} {P : zP} {t : Nat}
abbrev gw_X11_island (d : Nat) (Q : zQt) (pc : Nat) (lv : zV) (st : List Value) (I : zI) (L : zL) (P : zP) : Prop := zW zm_X11_island (zRm d 0 0) 0 0 Q pc lv st I L P 205 0 0
abbrev v_X11_island_57 (d : Nat) (Q : zQt) (x3 : Int32) (I : zI) (L : zL) (P : zP) : Prop :=
  ((3 ≤ x3 →
    ∀ I29 : zI, I29 = zuI I 90 5 0 →
    ∀ I31 : zI, I31 = zuI I29 96 4 0 →
    ∃ b33 : Nat, P 0 2 = some b33 ∧
    (b33 < 205 ∧ (zsh b33).1 = 2) ∧
    Q (some (.int (I31 b33 0))) I31 L P 205
  ) ∧ (¬ 3 ≤ x3 →
    vp_in x3 3 ∧
    ∀ I38 : zI, I38 = zuI I 89 x3.toNatClampNeg 0 →
    gw_X11_island (d + 1) Q 57 [some (.ref 0), none, none, some (.int (x3 + 1))] [] I38 L P
  ))
set_option maxRecDepth 20000 in
theorem g_X11_island_57 {d : Nat} {Q : zQt} {x3 : Int32} {I : zI} {L : zL} {P : zP} (hP : zPk P) (hv : v_X11_island_57 d Q x3 I L P) : gw_X11_island (d + 1) Q 57 [some (.ref 0), none, none, some (.int x3)] [] I L P := by
  unfold v_X11_island_57 at hv
  refine z_iload_n dX11_island_57 rfl ?_
  refine z_iconst (v := 3) dX11_island_58 (by decide) ?_
  refine z_icmp_ge (tgt := 75) dX11_island_59 (by decide) (fun q28 => ?_) (fun q28 => ?_)
  · have hv := hv.1 q28
    refine z_aload_n dX11_island_75 rfl ?_
    refine z_getP dX11_island_76 zf_X11_79 zn_0 zo_0 (fun _ _ _ _ _ => rfl) (hP 0 10 90 zp_0_10) ?_
    refine z_iconst (v := 0) dX11_island_79 (by decide) ?_
    refine z_putI dX11_island_80 zf_X11_111 zn_90 zo_90 (Or.inl rfl) (fun _ _ _ _ _ => rfl) rfl rfl (z_nmI (fun I29 e30 => ?_))
    have hv := hv I29 e30
    refine z_aload_n dX11_island_83 rfl ?_
    refine z_getP dX11_island_84 zf_X11_88 zn_0 zo_0 (fun _ _ _ _ _ => rfl) (hP 0 11 96 zp_0_11) ?_
    refine z_iconst (v := 0) dX11_island_87 (by decide) ?_
    refine z_putI dX11_island_88 zf_X11_114 zn_96 zo_96 (Or.inl rfl) (fun _ _ _ _ _ => rfl) (by decide) (by decide) (z_nmI (fun I31 e32 => ?_))
    have hv := hv I31 e32
    refine z_aload_n dX11_island_91 rfl ?_
    obtain ⟨b33, h34, hv⟩ := hv
    refine z_getP dX11_island_92 zf_X11_26 zn_0 zo_0 (fun _ _ _ _ _ => rfl) h34 ?_
    obtain ⟨h35, hv⟩ := hv
    refine z_getI dX11_island_95 zf_X11_118 h35.1 h35.2 (fun _ _ _ _ _ => rfl) ?_
    exact z_ireturn dX11_island_98 rfl rfl (Nat.le_refl _) (Nat.le_refl _) hv
  · have hv := hv.2 q28
    refine z_aload_n dX11_island_62 rfl ?_
    refine z_getP dX11_island_63 zf_X11_72 zn_0 zo_0 (fun _ _ _ _ _ => rfl) (hP 0 9 89 zp_0_9) ?_
    refine z_iload_n dX11_island_66 rfl ?_
    refine z_iconst (v := 0) dX11_island_67 (by decide) ?_
    obtain ⟨h36, hv⟩ := hv
    refine z_zastore (w := 0) dX11_island_68 zn_89 zh_89 h36 (by decide) (z_nmI (fun I38 e37 => ?_))
    have hv := hv I38 e37
    refine z_iinc (v2 := x3 + 1) (lv2 := [some (.ref 0), none, none, some (.int (x3 + 1))]) dX11_island_69 rfl (by rfl) (by decide) rfl rfl ?_
    refine z_goto (tgt := 57) dX11_island_72 (by decide) ?_
    exact hv
abbrev v_X11_island (d : Nat) (Q : zQt)  (I : zI) (L : zL) (P : zP) : Prop :=
  ∃ b1 : Nat, P 0 3 = some b1 ∧
  zMi zm_X5_readIsland d [.ref 17, .ref b1] I L P (fun r7 I3 L4 P5 =>
    zPk P5 ∧
    ∀ I9 : zI, I9 = zuI I3 1 1 0 →
    ((¬ r7 = 0 →
      ∃ b12 : Nat, P5 0 2 = some b12 ∧
      ∃ b14 : Nat, P5 0 3 = some b14 ∧
      ∀ P16 : zP, P16 = zuP P5 0 2 (some b14) →
      ∀ P18 : zP, P18 = zuP P16 0 3 (some b12) →
      zPk P18 ∧
      ∃ b21 : Nat, P18 0 2 = some b21 ∧
      zMv zm_X6_open d [.ref 73, .ref b21] I9 L4 P18 (fun I23 L24 P25 =>
        gw_X11_island (d + 1) Q 57 [some (.ref 0), none, none, some (.int 0)] [] I23 L24 P25
      )
    ) ∧ (r7 = 0 →
      Q (some (.int (-1))) I9 L4 P5 205
    ))
  )
set_option maxRecDepth 20000 in
theorem g_X11_island {d : Nat} {Q : zQt}  {I : zI} {L : zL} {P : zP} (hP : zPk P) (hv : v_X11_island d Q  I L P) : zM zm_X11_island (d + 1) 0 0 [.ref 0] I L P 205 Q := by
  unfold v_X11_island at hv
  refine zM_of (lv0 := [some (.ref 0), none, none, none]) (by decide +kernel) (Nat.le_of_ble_eq_true rfl) rfl ?_
  refine z_aload_n dX11_island_0 rfl ?_
  refine z_getP dX11_island_1 zf_X11_38 zn_0 zo_0 (fun _ _ _ _ _ => rfl) (hP 0 4 17 zp_0_4) ?_
  refine z_aload_n dX11_island_4 rfl ?_
  obtain ⟨b1, h2, hv⟩ := hv
  refine z_getP dX11_island_5 zf_X11_30 zn_0 zo_0 (fun _ _ _ _ _ => rfl) h2 ?_
  refine z_callV (As := [.ref b1]) (st := []) dX11_island_8 zl_X11_107 zv_X5_readIsland (by decide) rfl zn_17 zo_17 rfl rfl (Nat.le_of_ble_eq_true rfl) ⟨Nat.le_refl _, Nat.le_refl _⟩ ⟨Nat.le_refl _, Nat.le_refl _⟩ hv (fun v1 I3 L4 P5 nx1 q6 => ?_)
  obtain ⟨rfl, r7, rfl, hv⟩ := q6
  refine z_istore_n (lv2 := [some (.ref 0), some (.int r7), none, none]) dX11_island_11 (by decide) rfl rfl ?_
  refine z_aload_n dX11_island_12 rfl ?_
  obtain ⟨h8, hv⟩ := hv
  refine z_getP dX11_island_13 zf_X11_10 zn_0 zo_0 (fun _ _ _ _ _ => rfl) (h8 0 0 1 zp_0_0) ?_
  refine z_iconst (v := 0) dX11_island_16 (by decide) ?_
  refine z_putI dX11_island_17 zf_X11_103 zn_1 zo_1 (Or.inl rfl) (fun _ _ _ _ _ => rfl) rfl rfl (z_nmI (fun I9 e10 => ?_))
  have hv := hv I9 e10
  refine z_iload_n dX11_island_20 rfl ?_
  refine z_if_ne (tgt := 26) dX11_island_21 (by decide) (fun q11 => ?_) (fun q11 => ?_)
  · have hv := hv.1 q11
    refine z_aload_n dX11_island_26 rfl ?_
    obtain ⟨b12, h13, hv⟩ := hv
    refine z_getP dX11_island_27 zf_X11_26 zn_0 zo_0 (fun _ _ _ _ _ => rfl) h13 ?_
    refine z_astore_n (lv2 := [some (.ref 0), some (.int r7), some (.ref b12), none]) dX11_island_30 (by decide) rfl rfl ?_
    refine z_aload_n dX11_island_31 rfl ?_
    refine z_aload_n dX11_island_32 rfl ?_
    obtain ⟨b14, h15, hv⟩ := hv
    refine z_getP dX11_island_33 zf_X11_30 zn_0 zo_0 (fun _ _ _ _ _ => rfl) h15 ?_
    refine z_putP dX11_island_36 zf_X11_26 zn_0 zo_0 (Or.inl rfl) (fun _ _ _ _ _ => rfl) (fun _ => rfl) (fun _ => rfl) (z_nmP (fun P16 e17 => ?_))
    have hv := hv P16 e17
    refine z_aload_n dX11_island_39 rfl ?_
    refine z_aload_n dX11_island_40 rfl ?_
    refine z_putP dX11_island_41 zf_X11_30 zn_0 zo_0 (Or.inl rfl) (fun _ _ _ _ _ => rfl) (fun _ => rfl) (fun _ => rfl) (z_nmP (fun P18 e19 => ?_))
    have hv := hv P18 e19
    refine z_aload_n dX11_island_44 rfl ?_
    obtain ⟨h20, hv⟩ := hv
    refine z_getP dX11_island_45 zf_X11_57 zn_0 zo_0 (fun _ _ _ _ _ => rfl) (h20 0 6 73 zp_0_6) ?_
    refine z_aload_n dX11_island_48 rfl ?_
    obtain ⟨b21, h22, hv⟩ := hv
    refine z_getP dX11_island_49 zf_X11_26 zn_0 zo_0 (fun _ _ _ _ _ => rfl) h22 ?_
    refine z_callV (As := [.ref b21]) (st := []) dX11_island_52 zl_X11_96 zv_X6_open (by decide) rfl zn_73 zo_73 rfl rfl (Nat.le_of_ble_eq_true rfl) ⟨Nat.le_refl _, Nat.le_refl _⟩ ⟨Nat.le_refl _, Nat.le_refl _⟩ hv (fun v1 I23 L24 P25 nx1 q26 => ?_)
    obtain ⟨rfl, rfl, hv⟩ := q26
    refine z_iconst (v := 0) dX11_island_55 (by decide) ?_
    refine z_istore_n (lv2 := [some (.ref 0), some (.int r7), some (.ref b12), some (.int 0)]) dX11_island_56 (by decide) rfl rfl ?_
    exact z_sub (by exact ⟨rfl, ⟨rfl, trivial⟩⟩) hv
  · have hv := hv.2 q11
    refine z_iconst (v := (-1)) dX11_island_24 (by decide) ?_
    exact z_ireturn dX11_island_25 rfl rfl (Nat.le_refl _) (Nat.le_refl _) hv
theorem lp_X11_island_57 (hP : zPk P) (ht : P 0 2 = some t) (hi : il t) (kk : ∀ I', (∀ a, ¬ (a = 89 ∨ a = 90 ∨ a = 96) → I' a = I a) → (∀ k, k < 3 → I' 89 k = 0) → I' 90 5 = 0 → I' 90 6 = I 90 6 → I' 96 4 = 0 → Q (some (.int (I t 0))) I' L P 205) :
    ∀ m i J, i + m = 3 → (∀ a, a ≠ 89 → J a = I a) → (∀ k, k < i → J 89 k = 0) → gw_X11_island (d + 1) Q 57 [some (.ref 0), none, none, some (.int (nI i))] [] J L P := by
  have hil := hi
  unfold il at hil
  intro m
  induction m with
  | zero =>
    intro i J him hf h0
    have : i = 3 := by omega
    subst this
    refine g_X11_island_57 hP ⟨fun _ I29 e29 I31 e31 => ⟨t, ht, (il_P hi hP).1, ?_⟩, fun q => absurd (by decide) q⟩
    have c31 : ∀ a, a ≠ 90 → a ≠ 96 → I31 a = J a := fun a a1 a2 => by rw [e31, zuI_ne a2, e29, zuI_ne a1]
    rw [c31 t (by omega) (by omega), hf t (by omega)]
    refine kk I31 (fun a ha => by rw [c31 a (by omega) (by omega), hf a (by omega)]) (fun k hk => by rw [c31 89 (by decide) (by decide)]; exact h0 k hk) ?_ ?_ ?_
    · rw [e31, zuI_ne (by decide), e29, zuI_v]
    · rw [e31, zuI_ne (by decide), e29, zuI_o (by decide), hf 90 (by decide)]
    · rw [e31, zuI_v]
  | succ m ih =>
    intro i J him hf h0
    refine g_X11_island_57 hP ⟨fun q => absurd q (by rw [show (3 : Int32) = nI 3 from rfl]; exact nI_ge (by omega) (by decide)), fun _ => ⟨nx_in (by omega) (by decide), fun I38 e38 => ?_⟩⟩
    rw [nI_cl (by omega)] at e38
    rw [nI_1]
    refine ih (i + 1) I38 (by omega) (fun a ha => by rw [e38, zuI_ne ha, hf a ha]) (fun k hk => ?_)
    rw [e38]
    by_cases c : k = i
    · rw [c, zuI_v]
    · rw [zuI_o c]; exact h0 k (by omega)
/-- what is wanted of the class behind an island -/
theorem sp_X11_island {T : Nat → Int32} {n : Nat} (hP : zPk P) (hT : tpR I T n) (hw : wdR L) (hi : il t) (hz : I (t + 5) 0 = 0) (h2 : P 0 2 = some (16 - t)) (h3 : P 0 3 = some t) (hd : 73 ≤ d) {K : Int32 → zI → zL → zP → Prop}
    (kF : ∀ q, rIs T n (n + 1) A0 0 = .inl q → ∀ I' L', zPk (pRd P t (t + 3)) → (∀ a, ¬ (a = 1 ∨ a = 17 ∨ a = 18 ∨ a = 20 ∨ a = 21 ∨ (t ≤ a ∧ a ≤ t + 5)) → I' a = I a) → (∀ x, x ≠ 22 → x ≠ t + 1 → L' x = L x) → I' 1 1 = 0 → I' 17 0 = nI q.1 → I' 17 1 = nI q.2 → I' (t + 5) 0 = 0 → K (-1) I' L' (pRd P t (t + 3)))
    (kO : ∀ A, rIs T n (n + 1) A0 0 = .inr A → ∀ I' L' P', zPk P' → (∀ a k, ¬ ((a = 17 ∧ (k = 3 ∨ k = 4)) ∨ (a = 0 ∧ (k = 2 ∨ k = 3)) ∨ (a = 73 ∧ k = 1)) → P' a k = P a k) → P' 0 2 = some t → P' 0 3 = some (16 - t) → P' 73 1 = some t →
      (∀ a, ¬ (a = 1 ∨ a = 17 ∨ a = 18 ∨ a = 20 ∨ a = 21 ∨ (t ≤ a ∧ a ≤ t + 5) ∨ (73 ≤ a ∧ a ≤ 85) ∨ a = 89 ∨ a = 90 ∨ a = 96) → I' a = I a) → (∀ x, x ≠ 22 → x ≠ t + 1 → L' x = L x) → I' 1 1 = 0 → I' 17 0 = 0 → I' 17 1 = -1 → cI t I' L' A → I' t 5 = nI (A.1 4) → cS 73 85 I' (aw (A.1 0)) → I' 73 4 = 0 → I' 73 5 = 0 → I' 73 6 = 0 → (∀ p w, p < A.1 0 → w < 2 ^ A.1 0 → I' (76 + p) w = nI (w &&& (A.1 (10 + p) % 2 ^ A.1 0))) → (∀ k, k < 3 → I' 89 k = 0) → I' 90 5 = 0 → I' 90 6 = I 90 6 → I' 96 4 = 0 → I' (t + 5) 0 = 0 → K (nI (A.1 0)) I' L' P') : zMi zm_X11_island d [.ref 0] I L P K := by
  obtain ⟨d, rfl⟩ : ∃ e, d = e + 1 := ⟨d - 1, by omega⟩
  have hil := hi
  unfold il at hil
  refine g_X11_island hP ⟨t, h3, sp_X5_readIsland (T := T) (n := n) hP hT hw hi hz (by omega) (fun I1 L1 hP1 f1 l1 => ?_)⟩
  cases hr : rIs T n (n + 1) A0 0 with
  | inl q =>
    intro I3 L3 f3 l3 x0 x1
    refine ⟨hP1, fun I9 e9 => ⟨fun z => absurd rfl z, fun _ => qi (kF q hr I9 L3 hP1 (fun a ha => ?_) (fun x y1 y2 => by rw [l3 x y2, l1 x y1]) ?_ ?_ ?_ ?_)⟩⟩
    · rw [e9, zuI_ne (by omega), f3.1 a (by simp only [List.mem_cons, List.not_mem_nil, or_false]; omega), f1 a (by simp only [List.mem_cons, List.not_mem_nil, or_false]; omega)]
    · rw [e9, zuI_v]
    · rw [e9, zuI_ne (by decide)]; exact x0
    · rw [e9, zuI_ne (by decide)]; exact x1
    · rw [e9, zuI_ne (by omega)]; exact f3.2.2
  | inr A =>
    intro I3 L3 f3 l3 cA x5 x0 x1
    refine ⟨hP1, fun I9 e9 => ⟨fun _ => ⟨16 - t, by rw [pRd_o (by decide)]; exact h2, t, by rw [pRd_o (by decide)]; exact h3, fun P16 e16 P18 e18 => ?_⟩, fun z => absurd z (by decide)⟩⟩
    have z0 : zst 0 2 = none ∧ zst 0 3 = none := by decide +kernel
    have hP18 : zPk P18 := by rw [e18, e16]; exact zPk_u z0.2 (zPk_u z0.1 hP1)
    have p2 : P18 0 2 = some t := by rw [e18, zuP_o (by decide), e16, zuP_v]
    have p3 : P18 0 3 = some (16 - t) := by rw [e18, zuP_v]
    have po : ∀ a k, ¬ ((a = 17 ∧ (k = 3 ∨ k = 4)) ∨ (a = 0 ∧ (k = 2 ∨ k = 3))) → P18 a k = P a k := by
      intro a k hk
      rw [e18, e16]
      by_cases ca : a = 0
      · subst ca
        rw [zuP_o (by omega), zuP_o (by omega), pRd_o (by decide)]
      · rw [zuP_ne ca, zuP_ne ca]
        by_cases c17 : a = 17
        · subst c17
          unfold pRd
          rw [zuP_o (by omega), zuP_o (by omega)]
        · rw [pRd_o c17]
    have c9 : ∀ a, a ≠ 1 → I9 a = I3 a := fun a ha => by rw [e9, zuI_ne ha]
    have cA9 : cI t I9 L3 A := cI_c cA (c9 _ (by omega)) (c9 _ (by omega)) (c9 _ (by omega)) (c9 _ (by omega)) (c9 _ (by omega)) (by rw [c9 17 (by decide)]) rfl
    refine ⟨hP18, t, p2, sp_X6_open (sn := fun p => A.1 (10 + p) % 2 ^ A.1 0) hP18 (Or.inl ⟨rfl, rfl, rfl⟩) (cI_H hi cA9) (fun p hp => (cA9.2.2.2.2.2.2.2.1 p hp).2.2.1) (by omega) (fun I23 f23 s1 s4 s5 s6 sg => ?_)⟩
    have hP23 : zPk (zuP P18 73 1 (some t)) := zPk_u (zst_s1 (Or.inl ⟨rfl, rfl, rfl⟩)) hP18
    have c23 : ∀ a, ¬ (73 ≤ a ∧ a ≤ 85) → I23 a = I9 a := fun a ha => f23 a (by unfold gcs; simp only [List.mem_cons, List.not_mem_nil, or_false]; omega)
    refine lp_X11_island_57 (t := t) hP23 (by rw [zuP_ne (by decide)]; exact p2) hi (fun I' c' k89 k90 k906 k96 => ?_) 3 0 I23 rfl (fun _ _ => rfl) (fun k hk => absurd hk (Nat.not_lt_zero k))
    rw [c23 t (by omega), cA9.1.2]
    have cc : ∀ a, ¬ (a = 89 ∨ a = 90 ∨ a = 96 ∨ (73 ≤ a ∧ a ≤ 85) ∨ a = 1) → I' a = I3 a := fun a ha => by rw [c' a (by omega), c23 a (by omega), c9 a (by omega)]
    refine qi (kO A hr I' L3 _ hP23 (fun a k hk => ?_) (by rw [zuP_ne (by decide)]; exact p2) (by rw [zuP_ne (by decide)]; exact p3) (zuP_v _ _ _ _) (fun a ha => ?_) (fun x y1 y2 => by rw [l3 x y2, l1 x y1]) ?_ ?_ ?_ ?_ ?_ ?_ ?_ ?_ ?_ ?_ k89 k90 ?_ k96 ?_)
    · by_cases c73 : a = 73
      · subst c73
        rw [zuP_o (by omega)]
        exact po 73 k (by omega)
      · rw [zuP_ne c73]; exact po a k (by omega)
    · rw [cc a (by omega), f3.1 a (by simp only [List.mem_cons, List.not_mem_nil, or_false]; omega), f1 a (by simp only [List.mem_cons, List.not_mem_nil, or_false]; omega)]
    · rw [c' 1 (by decide), c23 1 (by decide), e9, zuI_v]
    · rw [cc 17 (by omega)]; exact x0
    · rw [cc 17 (by omega)]; exact x1
    · exact cI_c cA (cc _ (by omega)) (cc _ (by omega)) (cc _ (by omega)) (cc _ (by omega)) (cc _ (by omega)) (by rw [cc 17 (by omega)]) rfl
    · rw [cc t (by omega)]; exact x5
    · exact cS_c s1 (by rw [c' 73 (by decide)]) (c' 85 (by decide))
    · rw [c' 73 (by decide)]; exact s4
    · rw [c' 73 (by decide)]; exact s5
    · rw [c' 73 (by decide)]; exact s6
    · intro p w hp hw'
      have := cA.1.1
      rw [c' _ (by omega)]
      exact sg p w hp hw'
    · rw [k906, c23 90 (by omega), c9 90 (by decide), f3.1 90 (by simp only [List.mem_cons, List.not_mem_nil, or_false]; omega), f1 90 (by simp only [List.mem_cons, List.not_mem_nil, or_false]; omega)]
    · rw [cc (t + 5) (by omega)]; exact f3.2.2
end QM
