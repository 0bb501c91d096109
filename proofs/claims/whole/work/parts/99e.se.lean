/-! ===== class and model: guesses and sights ===== -/
section QC
variable {d : Nat} {M M' I I' : zI} {L L' : zL} {P P' : zP} {t st : Nat} {b : Nat → Nat} {cd : Nat → Cd}
/-- the relation out of its parts -/
theorem Rl_mk (h : Rl M I L P t st b cd) (hE : mE M M') (hM : MSc M' ∧ MCb M') (tp : MTp M' ∧ tpR I' (vTt M') (vTp M')) (h17 : I' 17 0 = M' 160 4 ∧ I' 17 1 = M' 160 5) (sg : MH M' ∧ (∃ j, j ≤ 100000 ∧ M' 160 60 = nI j) ∧ sgR M' I') (scn : ∃ g, rSc P' 73 85 74 t M' I' g) (bx : rBx M' I' P' t) (isl : ∀ a, 5 ≤ a → a ≤ 16 → I' a = I a) (gs : gK M I') (hL : ∀ x, (x = 6 ∨ x = 12 ∨ x = 19 ∨ x = 174) → L' x = L x) (hP : zPk P') (hp : P' 0 2 = P 0 2 ∧ P' 0 3 = P 0 3) : Rl M' I' L' P' t st b cd := by
  obtain ⟨⟨p1, p2, p3⟩, ⟨m1, m2, -⟩, h3, -, -, -, -, -, -, h10⟩ := h
  have ht := h3.1.1.1
  unfold il at ht
  exact ⟨⟨hP, by rw [hp.1]; exact p2, by rw [hp.2]; exact p3⟩, ⟨hM.1, hM.2, tp.1, sg.1, sg.2.1⟩, rIl_c (rIl_m h3 hE m1 m2) (fun a a1 a2 => isl a (by omega) (by omega)) (hL _ (by omega)) (hL _ (by omega)), tp.2, h17, scn, bx, sg.2.2, mE_gK hE m1.1.1 m2 m1.2.2.1 gs, fun i hi => by rw [hL 19 (by omega)]; exact h10.1 i hi, by rw [isl 10 (by decide) (by decide)]; exact h10.2.1, by rw [isl 16 (by decide) (by decide)]; exact h10.2.2⟩
theorem eM_X (em : eM I I') : (∀ k n, fCt I' k n = fCt I k n) ∧ ∀ k p n, fMs I' k p n = fMs I k p n := by
  have hE := mE_c em
  refine fX_c (mE_n hE) (mE_np hE) (mE_se hE) (mE_st hE) (mE_ow hE) ?_ (by unfold vNg; rw [em 160 (by decide)]) (fun i => congrFun (eM_sy em) i)
  funext n k ge s
  unfold fOk fRel
  rw [em 189 (by decide), em 190 (by decide), em 191 (by decide), em 192 (by decide), em 197 (by decide)]
theorem q_fits {x : Int32} (h : Rl I I L P t st b cd) (hd : 10 ≤ d) : zMi zm_X11_fits d [.ref 0, .int x] I L P (fun r I1 L1 P1 => zPk P1 ∧ zMi zm_X12_fits d [.ref 160, .int x] I1 L1 P1 (q2 r)) := by
  have hP := h.1.1
  have hS := h.2.1.1
  have hH := h.2.1.2.2.2.1
  refine sp_X11_fits hP hS.1.1 hS.2.2.1.1 h.1.2.1 h.2.2.1.1 h.2.2.2.2.2.2.2.1 h.2.2.2.2.2.2.2.2.1 (by omega) (fun z => ⟨hP, sp_X12_fits hP hS hH hd (fun _ => q2_s h) (fun y => absurd y z)⟩) (fun z I1 P1 f fp gk => ?_)
  have em : eM I I1 := fun c hc => f c (by omega)
  have hP1 := pGr_k fp hP
  have h1 := Rl_q (I' := I1) (L' := L) (P' := P1) h (fun c hc => f c (by unfold kC at hc; omega)) (by rw [f 17 (by decide)]; exact ⟨rfl, rfl⟩) gk (fun _ _ => rfl) hP1 (fun c k hc => fp c k (by omega))
  refine ⟨hP1, sp_X12_fits hP1 h1.2.1.1 h1.2.1.2.2.2.1 hd (fun y => absurd (by rw [eM_np em]; exact z) y) (fun y I2 r2 => ?_)⟩
  rw [(eM_X em).1, eM_ns em]
  exact q2_s (Rl_rs h1 r2)
theorem q_sure {x y : Int32} (h : Rl I I L P t st b cd) (hd : 10 ≤ d) : zMi zm_X11_sure d [.ref 0, .int x, .int y] I L P (fun r I1 L1 P1 => zPk P1 ∧ zMi zm_X12_sure d [.ref 160, .int x, .int y] I1 L1 P1 (q2 r)) := by
  have hP := h.1.1
  have hS := h.2.1.1
  have hH := h.2.1.2.2.2.1
  have h8 := (Rl_t0 h).2.1
  refine sp_X11_sure hP hS.1.1 hS.2.2.1.1 h.1.2.1 h.2.2.1.1 h.2.2.2.2.2.2.2.1 h.2.2.2.2.2.2.2.2.1 (by omega) (fun z => ⟨hP, sp_X12_sure hP hS hH hd (fun _ => q2_s h) (fun w => absurd w z) (fun p hp e => absurd (by rw [e]; exact nx_in hp (by omega)) z)⟩) (fun z z2 => ⟨hP, sp_X12_sure hP hS hH hd (fun w => absurd z w) (fun _ _ => q2_s h) (fun p hp e w => absurd w z2)⟩) (fun p hp e z I1 P1 f fp gk => ?_)
  have em : eM I I1 := fun c hc => f c (by omega)
  have hP1 := pGr_k fp hP
  have h1 := Rl_q (I' := I1) (L' := L) (P' := P1) h (fun c hc => f c (by unfold kC at hc; omega)) (by rw [f 17 (by decide)]; exact ⟨rfl, rfl⟩) gk (fun _ _ => rfl) hP1 (fun c k hc => fp c k (by omega))
  refine ⟨hP1, sp_X12_sure hP1 h1.2.1.1 h1.2.1.2.2.2.1 hd (fun w => absurd (by rw [e, eM_np em]; exact nx_in hp (by omega)) w) (fun _ w => absurd (by rw [eM_np em]; exact z) w) (fun p' hp' e' w I2 r2 => ?_)⟩
  rw [eM_np em] at hp'
  have : p' = p := ((nI_eq (by omega) (by omega)).mp (e.symm.trans e')).symm
  subst this
  rw [(eM_X em).1, (eM_X em).2, eM_ns em]
  exact q2_s (Rl_rs h1 r2)
/-- only sights are other -/
theorem Rl_sg (h : Rl I I L P t st b cd) (hf : ∀ a, ¬ ((90 ≤ a ∧ a ≤ 95) ∨ (189 ≤ a ∧ a ≤ 192) ∨ a = 197 ∨ a = 160) → I' a = I a) (h0 : ∀ k, k ≠ 59 → k ≠ 60 → I' 160 k = I 160 k) (sg : MH I' ∧ (∃ j, j ≤ 100000 ∧ I' 160 60 = nI j) ∧ sgR I' I') : Rl I' I' L P t st b cd := by
  have hS := h.2.1.1
  have f : zFr [90, 91, 92, 93, 94, 95, 189, 190, 191, 192, 197] [59, 60] I I' := ⟨fun a p q => hf a (by simp only [List.mem_cons, List.not_mem_nil, or_false] at p; omega), fun k p => h0 k (by simp only [List.mem_cons, List.not_mem_nil, or_false] at p; omega) (by simp only [List.mem_cons, List.not_mem_nil, or_false] at p; omega)⟩
  have hE : mE I I' := ⟨zFr_wk f (by decide +kernel) (by decide), fun k _ => by rw [hf 166 (by decide)], fun k _ => by rw [hf 175 (by decide), hf 176 (by decide)]; exact ⟨rfl, rfl⟩⟩
  have hSe : mSe I I' := by
    unfold mSe
    rw [hf 180 (by decide), hf 181 (by decide), hf 182 (by decide), h0 38 (by decide) (by decide), h0 39 (by decide) (by decide), h0 40 (by decide) (by decide)]
    exact mSe_rf I
  have ho : bOt I I' 3 := by
    intro c _
    rw [hf 199 (by decide), hf 200 (by decide), hf 201 (by decide), hf 202 (by decide), hf 203 (by decide), hf 204 (by decide)]
    exact ⟨rfl, rfl, rfl, fun _ _ => rfl, fun _ _ => rfl, fun _ _ => rfl⟩
  have hp : MP I' := MP_fr f (by decide) (by decide) (by decide) (by decide) (by decide) (by decide) (by decide) (by decide) (by decide) hS.2.2.2.2.2.1
  have ht := (Rl_t0 h).2.2
  have hil := ht
  unfold il at hil
  obtain ⟨g, hs⟩ := h.2.2.2.2.2.1
  refine Rl_mk h hE (mSe_MSc hE hSe hp hS h.2.1.2.1) ⟨?_, ?_⟩ ?_ sg ⟨g, rSc_m (rSc_c hs (fun a ha => hf a (by omega)) rfl) hE hSe hS⟩ (rBx_m (rBx_c ht h.2.2.2.2.2.2.1 (hf 89 (by decide)) (hf t (by omega)) (fun a a1 a2 => hf a (by omega)) (fun _ _ => rfl)) hE ho) (fun a a1 a2 => hf a (by omega)) (gK_c h.2.2.2.2.2.2.2.2.1 hS.2.2.1.1 (fun a a1 a2 => hf a (by omega))) (fun _ _ => rfl) h.1.1 ⟨rfl, rfl⟩
  · unfold MTp vTp
    rw [h0 2 (by decide) (by decide), hf 161 (by decide)]
    exact h.2.1.2.2.1
  · have e : vTt I' = vTt I := by funext k; unfold vTt; rw [hf 161 (by decide)]
    unfold vTp
    rw [e, h0 2 (by decide) (by decide)]
    exact tpR_c h.2.2.2.1 (hf 1 (by decide)) (hf 2 (by decide))
  · rw [hf 17 (by decide), h0 4 (by decide) (by decide), h0 5 (by decide) (by decide)]
    exact h.2.2.2.2.1
abbrev gw_X7_goOn (d : Nat) (Q : zQt) (pc : Nat) (lv : zV) (st : List Value) (I : zI) (L : zL) (P : zP) : Prop := zW zm_X7_goOn (zRm d 0 0) 0 0 Q pc lv st I L P 205 0 0
abbrev v_X7_goOn (d : Nat) (Q : zQt) (p1 : Int32) (I : zI) (L : zL) (P : zP) : Prop :=
  ((p1 < 0 →
    Q (some (.int (-1))) I L P 205
  ) ∧ (¬ p1 < 0 →
    ((1000 < p1 →
      Q (some (.int (-1))) I L P 205
    ) ∧ (¬ 1000 < p1 →
      ((((I 90 6) + p1) ≤ 100000 →
        ∀ I4 : zI, I4 = zuI I 90 6 ((I 90 6) + p1) →
        Q (some (.int (I4 90 6))) I4 L P 205
      ) ∧ (¬ ((I 90 6) + p1) ≤ 100000 →
        Q (some (.int (-1))) I L P 205
      ))
    ))
  ))
set_option maxRecDepth 20000 in
theorem g_X7_goOn {d : Nat} {Q : zQt} {p1 : Int32} {I : zI} {L : zL} {P : zP} (hP : zPk P) (hv : v_X7_goOn d Q p1 I L P) : zM zm_X7_goOn d 0 0 [.ref 90, .int p1] I L P 205 Q := by
  unfold v_X7_goOn at hv
  refine zM_of (lv0 := [some (.ref 90), some (.int p1)]) (by decide +kernel) (Nat.le_of_ble_eq_true rfl) rfl ?_
  refine z_iload_n dX7_goOn_0 rfl ?_
  refine z_if_lt (tgt := 22) dX7_goOn_1 (by decide) (fun q1 => ?_) (fun q1 => ?_)
  · have hv := hv.1 q1
    refine z_iconst (v := (-1)) dX7_goOn_22 (by decide) ?_
    exact z_ireturn dX7_goOn_23 rfl rfl (Nat.le_refl _) (Nat.le_refl _) hv
  · have hv := hv.2 q1
    refine z_iload_n dX7_goOn_4 rfl ?_
    refine z_sipush (v := 1000) dX7_goOn_5 (by decide) ?_
    refine z_icmp_gt (tgt := 22) dX7_goOn_8 (by decide) (fun q2 => ?_) (fun q2 => ?_)
    · have hv := hv.1 q2
      refine z_iconst (v := (-1)) dX7_goOn_22 (by decide) ?_
      exact z_ireturn dX7_goOn_23 rfl rfl (Nat.le_refl _) (Nat.le_refl _) hv
    · have hv := hv.2 q2
      refine z_aload_n dX7_goOn_11 rfl ?_
      refine z_getI dX7_goOn_12 zf_X7_32 zn_90 zo_90 (fun _ _ _ _ _ => rfl) ?_
      refine z_iload_n dX7_goOn_15 rfl ?_
      refine z_iadd dX7_goOn_16 ?_
      refine z_ldc (v := 100000) dX7_goOn_17 zi_X7_35 ?_
      refine z_icmp_le (tgt := 24) dX7_goOn_19 (by decide) (fun q3 => ?_) (fun q3 => ?_)
      · have hv := hv.1 q3
        refine z_aload_n dX7_goOn_24 rfl ?_
        refine z_dup dX7_goOn_25 rfl ?_
        refine z_getI dX7_goOn_26 zf_X7_32 zn_90 zo_90 (fun _ _ _ _ _ => rfl) ?_
        refine z_iload_n dX7_goOn_29 rfl ?_
        refine z_iadd dX7_goOn_30 ?_
        refine z_putI dX7_goOn_31 zf_X7_32 zn_90 zo_90 (Or.inl rfl) (fun _ _ _ _ _ => rfl) rfl rfl (z_nmI (fun I4 e5 => ?_))
        have hv := hv I4 e5
        refine z_aload_n dX7_goOn_34 rfl ?_
        refine z_getI dX7_goOn_35 zf_X7_32 zn_90 zo_90 (fun _ _ _ _ _ => rfl) ?_
        exact z_ireturn dX7_goOn_38 rfl rfl (Nat.le_refl _) (Nat.le_refl _) hv
      · have hv := hv.2 q3
        refine z_iconst (v := (-1)) dX7_goOn_22 (by decide) ?_
        exact z_ireturn dX7_goOn_23 rfl rfl (Nat.le_refl _) (Nat.le_refl _) hv
theorem sp_X7_goOn {x : Int32} {K : Int32 → zI → zL → zP → Prop} (hP : zPk P) (k0 : ¬ ((¬ x < 0 ∧ ¬ 1000 < x) ∧ I 90 6 + x ≤ 100000) → K (-1) I L P) (kk : (¬ x < 0 ∧ ¬ 1000 < x) → I 90 6 + x ≤ 100000 → K (I 90 6 + x) (zuI I 90 6 (I 90 6 + x)) L P) : zMi zm_X7_goOn d [.ref 90, .int x] I L P K := by
  refine g_X7_goOn hP ⟨fun q => qi (k0 (fun z => z.1.1 q)), fun q => ⟨fun q2' => qi (k0 (fun z => z.1.2 q2')), fun q2' => ⟨fun q3 I4 e4 => ?_, fun q3 => qi (k0 (fun z => q3 z.2))⟩⟩⟩
  rw [e4, zuI_v]
  exact qi (kk ⟨q, q2'⟩ q3)
abbrev gw_X11_later (d : Nat) (Q : zQt) (pc : Nat) (lv : zV) (st : List Value) (I : zI) (L : zL) (P : zP) : Prop := zW zm_X11_later (zRm d 0 0) 0 0 Q pc lv st I L P 205 0 0
abbrev v_X11_later (d : Nat) (Q : zQt) (p1 : Int32) (I : zI) (L : zL) (P : zP) : Prop :=
  zMi zm_X7_goOn d [.ref 90, .int p1] I L P (fun r5 I1 L2 P3 =>
    Q (some (.int r5)) I1 L2 P3 205
  )
set_option maxRecDepth 20000 in
theorem g_X11_later {d : Nat} {Q : zQt} {p1 : Int32} {I : zI} {L : zL} {P : zP} (hP : zPk P) (hv : v_X11_later d Q p1 I L P) : zM zm_X11_later (d + 1) 0 0 [.ref 0, .int p1] I L P 205 Q := by
  unfold v_X11_later at hv
  refine zM_of (lv0 := [some (.ref 0), some (.int p1)]) (by decide +kernel) (Nat.le_of_ble_eq_true rfl) rfl ?_
  refine z_aload_n dX11_later_0 rfl ?_
  refine z_getP dX11_later_1 zf_X11_79 zn_0 zo_0 (fun _ _ _ _ _ => rfl) (hP 0 10 90 zp_0_10) ?_
  refine z_iload_n dX11_later_4 rfl ?_
  refine z_callV (As := [.int p1]) (st := []) dX11_later_5 zl_X11_223 zv_X7_goOn (by decide) rfl zn_90 zo_90 rfl rfl (Nat.le_of_ble_eq_true rfl) ⟨Nat.le_refl _, Nat.le_refl _⟩ ⟨Nat.le_refl _, Nat.le_refl _⟩ hv (fun v1 I1 L2 P3 nx1 q4 => ?_)
  obtain ⟨rfl, r5, rfl, hv⟩ := q4
  exact z_ireturn dX11_later_8 rfl rfl (Nat.le_refl _) (Nat.le_refl _) hv
theorem lt_tab : ∀ j, j ≤ 100000 → (nI j).toInt = j := fun j hj => nI_toInt (by omega)
theorem q_later {x : Int32} (h : Rl I I L P t st b cd) (hd : 2 ≤ d) : zMi zm_X11_later d [.ref 0, .int x] I L P (fun r I1 L1 P1 => zPk P1 ∧ zMi zm_X12_later d [.ref 160, .int x] I1 L1 P1 (q2 r)) := by
  obtain ⟨d, rfl⟩ : ∃ e, d = e + 1 := ⟨d - 1, by omega⟩
  have hP := h.1.1
  have e6 := h.2.2.2.2.2.2.2.1.2.1
  obtain ⟨j, hj, ej⟩ := h.2.1.2.2.2.2
  have no : ¬ ((¬ x < 0 ∧ ¬ 1000 < x) ∧ I 160 60 + x ≤ 100000) → zMi zm_X12_later (d + 1) [.ref 160, .int x] I L P (q2 (-1)) := fun z => sp_X12_later hP (by omega) (fun _ => q2_s h) (fun a c => absurd ⟨a, c⟩ z)
  refine g_X11_later hP (sp_X7_goOn hP (fun z => qj hP (no (by rw [← e6]; exact z))) (fun qq q3 => ?_))
  obtain ⟨q, q2'⟩ := qq
  obtain ⟨I4, e4⟩ : ∃ J, J = zuI I 90 6 (I 90 6 + x) := ⟨_, rfl⟩
  rw [← e4]
  rw [e6] at q3 e4
  have em : eM I I4 := fun a ha => by rw [e4, zuI_ne (by omega)]
  have e60 : I4 160 60 = I 160 60 := by rw [em 160 (by decide)]
  have e90 : I4 90 6 = I 160 60 + x := by rw [e4, zuI_v]
  rw [e6]
  refine qj hP (sp_X12_later hP (by omega) (fun z => absurd ⟨⟨q, q2'⟩, by rw [e60]; exact q3⟩ z) (fun a c => ?_))
  rw [e60]
  obtain ⟨n, hn, en⟩ : ∃ n, n ≤ 1000 ∧ x = nI n := by
    have : vp_in x 1001 := by
      rw [vp_in_iff]
      rw [Int32.lt_iff_toInt_lt] at q q2'
      have z0 : (0 : Int32).toInt = 0 := by decide
      have z1 : (1000 : Int32).toInt = 1000 := by decide
      omega
    obtain ⟨n, hn, e⟩ := vp_nI this (by decide)
    exact ⟨n, by omega, e⟩
  have es : I 160 60 + x = nI (j + n) := by rw [ej, en, nI_add]
  rw [es] at q3 e4 ⊢
  have hjn : j + n ≤ 100000 := by
    rw [show (100000 : Int32) = nI 100000 from rfl, nI_leI (by omega) (by decide)] at q3
    exact q3
  refine ⟨rfl, hP, Rn_i (Rl_sg (I' := zuI I4 160 60 (nI (j + n))) h (fun a ha => ?_) (fun k k1 k2 => ?_) ⟨?_, ⟨j + n, hjn, zuI_v _ _ _ _⟩, ?_⟩)⟩
  · rw [zuI_ne (by omega), e4, zuI_ne (by omega)]
  · rw [zuI_o k2, em 160 (by decide)]
  · have := h.2.1.2.2.2.1
    unfold MH vNg at this ⊢
    rw [zuI_o (by decide), zuI_ne (by decide), zuI_ne (by decide), em 160 (by decide), em 189 (by decide), em 197 (by decide)]
    exact this
  · have := h.2.2.2.2.2.2.2.1
    have eNp : vNp (zuI I4 160 60 (nI (j + n))) = vNp I := by
      unfold vNp vB
      rw [zuI_o (by decide), zuI_ne (by decide), em 160 (by decide), em 163 (by decide)]
    unfold sgR vNg at this ⊢
    rw [eNp, zuI_o (by decide), zuI_v, zuI_ne (by decide), zuI_ne (by decide), zuI_ne (by decide), zuI_ne (by decide), zuI_ne (by decide), zuI_ne (by decide), zuI_ne (by decide), zuI_ne (by decide), zuI_ne (by decide), zuI_ne (by decide), zuI_ne (by decide), em 160 (by decide), em 189 (by decide), em 190 (by decide), em 191 (by decide), em 192 (by decide), em 197 (by decide), e4, zuI_o (by decide), zuI_v, zuI_ne (by decide), zuI_ne (by decide), zuI_ne (by decide), zuI_ne (by decide), zuI_ne (by decide)]
    exact ⟨this.1, rfl, this.2.2⟩
end QC
