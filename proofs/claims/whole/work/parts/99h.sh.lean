/-! ===== class and model: nights, sayings ===== -/
section QF
variable {d : Nat} {I I1 I2 : zI} {L L' : zL} {P P' : zP} {t st : Nat} {b : Nat → Nat} {cd : Nat → Cd}
theorem sV_m {M M' : zI} {s l v gn : Nat} {po : Nat → Prop} {g : Nat → Nat → Nat} (h : sV P s l v t M I po g gn) (hE : mE M M') (hM : MSc M) (e38 : M' 160 38 = M 160 38) (e181 : ∀ j, j < 2048 → M' 181 j = M 181 j) (e182 : ∀ j, j < 8 → M' 182 j = M 182 j) (hpo : ∀ w, w < vN M → (vPoss M' w ↔ po w)) (hgn : vGn M' = gn) : sV P s l v t M' I (vPoss M') g (vGn M') := by
  obtain ⟨h1, h2, h3, h4⟩ := h
  have hN := vN_le hM.1.1
  have eN := mE_n hE
  have w8 := hM.1.2.2.1
  have eP : lP (vPoss M') (vN M) = lP po (vN M) := lP_c hpo
  have lk : ∀ p a c, a < 256 → c < 256 → (vLike M' p a c ↔ vLike M p a c) := by
    intro p a c ha hc
    have e : vNw M' = vNw M := by unfold vNw; rw [e38]
    unfold vLike
    rw [mE_se hE, e]
    have : ∀ k, k < vNw M → (vWt M' k = vWt M k ∧ M' 181 (256 * k + a) = M 181 (256 * k + a) ∧ M' 181 (256 * k + c) = M 181 (256 * k + c)) := fun k hk => ⟨by unfold vWt; rw [e182 k (by omega)], e181 _ (by omega), e181 _ (by omega)⟩
    constructor
    · rintro ⟨x, y⟩
      refine ⟨x, fun k hk z => ?_⟩
      obtain ⟨q1, q2, q3⟩ := this k hk
      have := y k hk (by rw [q1]; exact z)
      rwa [q2, q3] at this
    · rintro ⟨x, y⟩
      refine ⟨x, fun k hk z => ?_⟩
      obtain ⟨q1, q2, q3⟩ := this k hk
      rw [q2, q3]
      exact y k hk (by rw [← q1]; exact z)
  refine ⟨by rw [mE_np hE, eN, eP]; exact h1, ?_, by rw [hgn]; exact h3, ?_⟩
  · intro p hp a c ha hc pa pc
    rw [mE_np hE] at hp
    rw [eN] at ha hc
    rw [lk p a c (by omega) (by omega)]
    exact h2 p hp a c ha hc ((hpo a ha).mp pa) ((hpo c hc).mp pc)
  · rw [mE_tw hE]
    exact (hpo _ hM.2.1.1).mpr h4
/-- the scene now is another -/
theorem Rl_sn {po : Nat → Prop} {gn : Nat} {g : Nat → Nat → Nat} (h : Rl I I L P t st b cd) (em : eM I I1) (hf : ∀ a, ¬ (a = 23 ∨ (25 ≤ a ∧ a ≤ 72) ∨ a = 73 ∨ a = 85) → I1 a = I a) (hV : sV P 73 85 74 t I I1 po g gn) (hts : tSt I1 I2 po gn) (s5 : I1 73 5 = I2 160 39) (s6 : I1 73 6 = I 160 38) (hj : ∃ j, j ≤ 300 ∧ I2 160 39 = nI j) : Rl I2 I2 L P t st b cd := by
  have hS := h.2.1.1
  obtain ⟨f, z1, z2, z3, z4, z5⟩ := hts
  have c2 : ∀ a, a < 160 → I2 a = I1 a := fun a ha => f.1 a (by simp only [List.mem_cons, List.not_mem_nil, or_false]; omega) (by omega)
  have hE : mE I I2 := mE_tr (mE_c em) ⟨zFr_wk f (fun a ha => meC_hi ((by decide : ∀ x ∈ tC, x ∈ [161, 162, 166, 175, 176, 177, 178, 179, 180, 181, 182, 183, 184, 185, 186, 187, 188, 189, 190, 191, 192, 193, 194, 195, 196, 197, 198, 199, 200, 201, 202, 203, 204]) a ha)) (by decide), fun k _ => by rw [f.1 166 (by decide) (by decide)], fun k _ => by rw [f.1 175 (by decide) (by decide), f.1 176 (by decide) (by decide)]; exact ⟨rfl, rfl⟩⟩
  have e38 : I2 160 38 = I 160 38 := by rw [f.2 38 (by decide), em 160 (by decide)]
  have e181 : I2 181 = I 181 := by rw [f.1 181 (by decide) (by decide), em 181 (by decide)]
  have e182 : I2 182 = I 182 := by rw [f.1 182 (by decide) (by decide), em 182 (by decide)]
  have hgn : vGn I2 = gn := by unfold vGn; rw [z3.1, nI_cl (by have := z3.2; omega)]
  have hN := vN_le hS.1.1
  have hpo : ∀ w, w < vN I → (vPoss I2 w ↔ po w) := fun w hw => z2 w (by rw [eM_n em]; exact hw)
  have hV2 := sV_m hV hE hS e38 (fun _ _ => by rw [e181]) (fun _ _ => by rw [e182]) hpo hgn
  have hMS : MSc I2 ∧ MCb I2 := by
    obtain ⟨hEE, hT, hC, hG, hZ, hM, hpt⟩ := hS
    obtain ⟨c1, c2', -⟩ := mE_C hE hEE.1 h.2.1.2.1 hC
    refine ⟨⟨⟨mE_MB hE hEE.1, ?_, ?_⟩, mE_MT hE hT, c1, ?_, ⟨z1, fun j hj => by rw [e181]; exact hZ.2 j hj⟩, z4, ?_⟩, c2'⟩
    · intro p hp'
      rw [mE_np hE] at hp'
      rw [mE_B hE, hE.1.1 168 (meC_n 168 (by decide)) (by decide)]
      exact hEE.2.1 p hp'
    · have := hEE.2.2
      unfold MW vNw vWt at this ⊢
      rw [e38, e182]
      exact this
    · exact ⟨by rw [hgn]; exact z3.2, by rw [hgn]; exact z3.1⟩
    · rw [mE_tw hE]
      exact (hpo _ hT.1).mpr (by rw [← eM_tw em]; exact z5)
  have ht := (Rl_t0 h).2.2
  have hil := ht
  unfold il at hil
  have ho : bOt I I2 3 := by
    intro c _
    rw [f.1 199 (by decide) (by decide), f.1 200 (by decide) (by decide), f.1 201 (by decide) (by decide), f.1 202 (by decide) (by decide), f.1 203 (by decide) (by decide), f.1 204 (by decide) (by decide), em 199 (by decide), em 200 (by decide), em 201 (by decide), em 202 (by decide), em 203 (by decide), em 204 (by decide)]
    exact ⟨rfl, rfl, rfl, fun _ _ => rfl, fun _ _ => rfl, fun _ _ => rfl⟩
  have hG : mG I I2 := by
    unfold mG
    rw [f.1 189 (by decide) (by decide), f.1 190 (by decide) (by decide), f.1 191 (by decide) (by decide), f.1 192 (by decide) (by decide), f.1 197 (by decide) (by decide), f.2 59 (by decide), f.2 60 (by decide), em 189 (by decide), em 190 (by decide), em 191 (by decide), em 192 (by decide), em 197 (by decide), em 160 (by decide)]
    exact ⟨⟨rfl, rfl, rfl, rfl, rfl⟩, rfl, rfl⟩
  have cc : ∀ a, a < 160 → ¬ (a = 23 ∨ (25 ≤ a ∧ a ≤ 72) ∨ a = 73 ∨ a = 85) → I2 a = I a := fun a a1 a2 => by rw [c2 a a1, hf a a2]
  have sR : rSc P 73 85 74 t I2 I1 g := ⟨hV2, s5, by rw [e38]; exact s6, hj⟩
  have e2 : I2 160 2 = I 160 2 := by rw [f.2 2 (by decide), em 160 (by decide)]
  have e161 : I2 161 = I 161 := by rw [f.1 161 (by decide) (by decide), em 161 (by decide)]
  have evt : vTp I2 = vTp I := by unfold vTp; rw [e2]
  have evT : vTt I2 = vTt I := by funext k; unfold vTt; rw [e161]
  refine Rl_mk h hE hMS ⟨?_, ?_⟩ ?_ ⟨mG_H hG h.2.1.2.2.2.1, by rw [hG.2.2]; exact h.2.1.2.2.2.2, sgR_c (mE_sg hE hG h.2.2.2.2.2.2.2.1) (fun a a1 a2 => cc a (by omega) (by omega))⟩ ⟨g, rSc_c sR (fun a ha => c2 a (by omega)) rfl⟩ (rBx_m (rBx_c ht h.2.2.2.2.2.2.1 (cc 89 (by decide) (by decide)) (cc t (by omega) (by omega)) (fun a a1 a2 => cc a (by omega) (by omega)) (fun _ _ => rfl)) hE ho) (fun a a1 a2 => cc a (by omega) (by omega)) (gK_c h.2.2.2.2.2.2.2.2.1 hS.2.2.1.1 (fun a a1 a2 => cc a (by omega) (by omega))) (fun _ _ => rfl) h.1.1 ⟨rfl, rfl⟩
  · unfold MTp; rw [evt, e2, e161]; exact h.2.1.2.2.1
  · rw [evt, evT]; exact tpR_c h.2.2.2.1 (cc 1 (by decide) (by decide)) (cc 2 (by decide) (by decide))
  · rw [cc 17 (by decide) (by decide), f.2 4 (by decide), f.2 5 (by decide), em 160 (by decide)]; exact h.2.2.2.2.1
abbrev gw_X11_night (d : Nat) (Q : zQt) (pc : Nat) (lv : zV) (st : List Value) (I : zI) (L : zL) (P : zP) : Prop := zW zm_X11_night (zRm d 0 0) 0 0 Q pc lv st I L P 205 0 0
abbrev v_X11_night (d : Nat) (Q : zQt)  (I : zI) (L : zL) (P : zP) : Prop :=
  ((300 ≤ (I 73 5) →
    Q (some (.int (-1))) I L P 205
  ) ∧ (¬ 300 ≤ (I 73 5) →
    zMi zm_X4_pass d [.ref 23, .ref 73] I L P (fun r6 I2 L3 P4 =>
      Q (some (.int r6)) I2 L3 P4 205
    )
  ))
set_option maxRecDepth 20000 in
theorem g_X11_night {d : Nat} {Q : zQt}  {I : zI} {L : zL} {P : zP} (hP : zPk P) (hv : v_X11_night d Q  I L P) : zM zm_X11_night (d + 1) 0 0 [.ref 0] I L P 205 Q := by
  unfold v_X11_night at hv
  refine zM_of (lv0 := [some (.ref 0)]) (by decide +kernel) (Nat.le_of_ble_eq_true rfl) rfl ?_
  refine z_aload_n dX11_night_0 rfl ?_
  refine z_getP dX11_night_1 zf_X11_57 zn_0 zo_0 (fun _ _ _ _ _ => rfl) (hP 0 6 73 zp_0_6) ?_
  refine z_getI dX11_night_4 zf_X11_190 zn_73 zo_73 (fun _ _ _ _ _ => rfl) ?_
  refine z_sipush (v := 300) dX11_night_7 (by decide) ?_
  refine z_icmp_ge (tgt := 27) dX11_night_10 (by decide) (fun q1 => ?_) (fun q1 => ?_)
  · have hv := hv.1 q1
    refine z_iconst (v := (-1)) dX11_night_27 (by decide) ?_
    exact z_ireturn dX11_night_28 rfl rfl (Nat.le_refl _) (Nat.le_refl _) hv
  · have hv := hv.2 q1
    refine z_aload_n dX11_night_13 rfl ?_
    refine z_getP dX11_night_14 zf_X11_45 zn_0 zo_0 (fun _ _ _ _ _ => rfl) (hP 0 5 23 zp_0_5) ?_
    refine z_aload_n dX11_night_17 rfl ?_
    refine z_getP dX11_night_18 zf_X11_57 zn_0 zo_0 (fun _ _ _ _ _ => rfl) (hP 0 6 73 zp_0_6) ?_
    refine z_callV (As := [.ref 73]) (st := []) dX11_night_21 zl_X11_193 zv_X4_pass (by decide) rfl zn_23 zo_23 rfl rfl (Nat.le_of_ble_eq_true rfl) ⟨Nat.le_refl _, Nat.le_refl _⟩ ⟨Nat.le_refl _, Nat.le_refl _⟩ hv (fun v1 I2 L3 P4 nx1 q5 => ?_)
    obtain ⟨rfl, r6, rfl, hv⟩ := q5
    refine z_goto (tgt := 28) dX11_night_24 (by decide) ?_
    exact z_ireturn dX11_night_28 rfl rfl (Nat.le_refl _) (Nat.le_refl _) hv
theorem q_night (h : Rl I I L P t st b cd) (hd : 6 ≤ d) : zMi zm_X11_night d [.ref 0] I L P (fun r I1 L1 P1 => zPk P1 ∧ zMi zm_X12_night d [.ref 160] I1 L1 P1 (q2 r)) := by
  obtain ⟨d, rfl⟩ : ∃ e, d = e + 1 := ⟨d - 1, by omega⟩
  have hP := h.1.1
  have hS := h.2.1.1
  obtain ⟨g, hs, h5, h6, j, hj, ej⟩ := h.2.2.2.2.2.1
  have c300 : (300 : Int32) ≤ I 73 5 ↔ j = 300 := by rw [h5, ej, show (300 : Int32) = nI 300 from rfl, nI_leI (by decide) (by omega)]; omega
  have d300 : I 160 39 = 300 ↔ j = 300 := by rw [ej, show (300 : Int32) = nI 300 from rfl, nI_eq (by omega) (by decide)]
  refine g_X11_night hP ⟨fun q => qj hP (sp_X12_night hP hS (by omega) (fun _ => q2_s h) (fun z => absurd (d300.mpr (c300.mp q)) z)), fun q => ?_⟩
  rw [c300] at q
  refine b_pass hP hS.2.1 h.2.2.1.1 hs (by omega) (fun I1 f hV h3 s5 s6 => ?_)
  have em : eM I I1 := fun a ha => f a (by simp only [List.mem_cons, List.not_mem_nil, or_false]; omega)
  have h1S : MSc I1 := (Rl_same (M' := I1) h em).2.1.1
  have e39 : I1 160 39 = I 160 39 := by rw [em 160 (by decide)]
  refine qj hP (sp_X12_night hP h1S (by omega) (fun z => absurd (d300.mp (by rw [← e39]; exact z)) q) (fun z I2 ts e2 => ?_))
  have ep : aPo I1 (vPoss I1) (vGn I1) = aPo I (vPoss I) (vGn I) := by
    rw [eM_po em, eM_gn em]
    funext w
    unfold aPo
    rw [eM_gs em, eM_gs em, eM_tw em]
  have eg : aGn I1 (vPoss I1) (vGn I1) = aGn I (vPoss I) (vGn I) := by
    rw [eM_po em, eM_gn em]
    unfold aGn
    rw [eM_gs em, eM_tw em]
  have er : aGs I1 (vPoss I1) (vGn I1) (vTw I1) = aGs I (vPoss I) (vGn I) (vTw I) := by rw [eM_po em, eM_gn em, eM_gs em, eM_tw em]
  rw [ep, eg] at ts
  rw [er]
  rw [e39, ej, nI_1] at e2
  refine ⟨rfl, hP, Rn_i (Rl_sn h em (fun a ha => f a (by simp only [List.mem_cons, List.not_mem_nil, or_false]; omega)) hV ts (by rw [s5, h5, e2, ej, nI_1]) (by rw [s6]; exact h6) ⟨j + 1, by omega, e2⟩)⟩
abbrev gw_X11_saying (d : Nat) (Q : zQt) (pc : Nat) (lv : zV) (st : List Value) (I : zI) (L : zL) (P : zP) : Prop := zW zm_X11_saying (zRm d 0 0) 0 0 Q pc lv st I L P 205 0 0
abbrev v_X11_saying (d : Nat) (Q : zQt) (p1 : Int32) (I : zI) (L : zL) (P : zP) : Prop :=
  ((p1 < 0 →
    Q (some (.int (-1))) I L P 205
  ) ∧ (¬ p1 < 0 →
    ∃ b2 : Nat, P 0 2 = some b2 ∧
    (b2 < 205 ∧ (zsh b2).1 = 2) ∧
    ((p1 < (I b2 4) →
      zMv zm_X4_weighSaying d [.ref 23, .ref 73, .int p1] I L P (fun I6 L7 P8 =>
        zPk P8 ∧
        zMr zm_X4_result d [.ref 23] I6 L7 P8 (fun r16 I12 L13 P14 =>
          zMi zm_X6_hear d [.ref 73, .ref r16] I12 L13 P14 (fun r21 I17 L18 P19 =>
            Q (some (.int r21)) I17 L18 P19 205
          )
        )
      )
    ) ∧ (¬ p1 < (I b2 4) →
      Q (some (.int (-1))) I L P 205
    ))
  ))
set_option maxRecDepth 20000 in
theorem g_X11_saying {d : Nat} {Q : zQt} {p1 : Int32} {I : zI} {L : zL} {P : zP} (hP : zPk P) (hv : v_X11_saying d Q p1 I L P) : zM zm_X11_saying (d + 1) 0 0 [.ref 0, .int p1] I L P 205 Q := by
  unfold v_X11_saying at hv
  refine zM_of (lv0 := [some (.ref 0), some (.int p1)]) (by decide +kernel) (Nat.le_of_ble_eq_true rfl) rfl ?_
  refine z_iload_n dX11_saying_0 rfl ?_
  refine z_if_lt (tgt := 15) dX11_saying_1 (by decide) (fun q1 => ?_) (fun q1 => ?_)
  · have hv := hv.1 q1
    refine z_iconst (v := (-1)) dX11_saying_15 (by decide) ?_
    exact z_ireturn dX11_saying_16 rfl rfl (Nat.le_refl _) (Nat.le_refl _) hv
  · have hv := hv.2 q1
    refine z_iload_n dX11_saying_4 rfl ?_
    refine z_aload_n dX11_saying_5 rfl ?_
    obtain ⟨b2, h3, hv⟩ := hv
    refine z_getP dX11_saying_6 zf_X11_26 zn_0 zo_0 (fun _ _ _ _ _ => rfl) h3 ?_
    obtain ⟨h4, hv⟩ := hv
    refine z_getI dX11_saying_9 zf_X11_173 h4.1 h4.2 (fun _ _ _ _ _ => rfl) ?_
    refine z_icmp_lt (tgt := 17) dX11_saying_12 (by decide) (fun q5 => ?_) (fun q5 => ?_)
    · have hv := hv.1 q5
      refine z_aload_n dX11_saying_17 rfl ?_
      refine z_getP dX11_saying_18 zf_X11_45 zn_0 zo_0 (fun _ _ _ _ _ => rfl) (hP 0 5 23 zp_0_5) ?_
      refine z_aload_n dX11_saying_21 rfl ?_
      refine z_getP dX11_saying_22 zf_X11_57 zn_0 zo_0 (fun _ _ _ _ _ => rfl) (hP 0 6 73 zp_0_6) ?_
      refine z_iload_n dX11_saying_25 rfl ?_
      refine z_callV (As := [.ref 73, .int p1]) (st := []) dX11_saying_26 zl_X11_176 zv_X4_weighSaying (by decide) rfl zn_23 zo_23 rfl rfl (Nat.le_of_ble_eq_true rfl) ⟨Nat.le_refl _, Nat.le_refl _⟩ ⟨Nat.le_refl _, Nat.le_refl _⟩ hv (fun v1 I6 L7 P8 nx1 q9 => ?_)
      obtain ⟨rfl, rfl, hv⟩ := q9
      refine z_aload_n dX11_saying_29 rfl ?_
      obtain ⟨h11, hv⟩ := hv
      refine z_getP dX11_saying_30 zf_X11_57 zn_0 zo_0 (fun _ _ _ _ _ => rfl) (h11 0 6 73 zp_0_6) ?_
      refine z_aload_n dX11_saying_33 rfl ?_
      refine z_getP dX11_saying_34 zf_X11_45 zn_0 zo_0 (fun _ _ _ _ _ => rfl) (h11 0 5 23 zp_0_5) ?_
      refine z_callV (As := []) (st := [.ref 73]) dX11_saying_37 zl_X11_154 zv_X4_result (by decide) rfl zn_23 zo_23 rfl rfl (Nat.le_of_ble_eq_true rfl) ⟨Nat.le_refl _, Nat.le_refl _⟩ ⟨Nat.le_refl _, Nat.le_refl _⟩ hv (fun v1 I12 L13 P14 nx1 q15 => ?_)
      obtain ⟨rfl, r16, rfl, hv⟩ := q15
      refine z_callV (As := [.ref r16]) (st := []) dX11_saying_40 zl_X11_170 zv_X6_hear (by decide) rfl zn_73 zo_73 rfl rfl (Nat.le_of_ble_eq_true rfl) ⟨Nat.le_refl _, Nat.le_refl _⟩ ⟨Nat.le_refl _, Nat.le_refl _⟩ hv (fun v1 I17 L18 P19 nx1 q20 => ?_)
      obtain ⟨rfl, r21, rfl, hv⟩ := q20
      exact z_ireturn dX11_saying_43 rfl rfl (Nat.le_refl _) (Nat.le_refl _) hv
    · have hv := hv.2 q5
      refine z_iconst (v := (-1)) dX11_saying_15 (by decide) ?_
      exact z_ireturn dX11_saying_16 rfl rfl (Nat.le_refl _) (Nat.le_refl _) hv
theorem q_saying {x : Int32} (h : Rl I I L P t st b cd) (hd : 8 ≤ d) : zMi zm_X11_saying d [.ref 0, .int x] I L P (fun r I1 L1 P1 => zPk P1 ∧ zMi zm_X12_saying d [.ref 160, .int x] I1 L1 P1 (q2 r)) := by
  obtain ⟨d, rfl⟩ : ∃ e, d = e + 1 := ⟨d - 1, by omega⟩
  have hP := h.1.1
  have hS := h.2.1.1
  have hR := h.2.2.1.1
  obtain ⟨e0, h8, hi⟩ := Rl_t0 h
  obtain ⟨b1, -⟩ := il_P hi hP
  obtain ⟨g, hs, h5, h6, j, hj, ej⟩ := h.2.2.2.2.2.1
  have n6 := hS.2.2.1.1
  have e4 : I t 4 = nI (vNs I) := hR.2.2.2.2.2.1.1
  have hil := hi
  unfold il at hil
  have q5 : ∀ a, t ≤ a → a ≤ t + 5 → ¬ (a = 23 ∨ (25 ≤ a ∧ a ≤ 71)) := fun a _ _ => by omega
  have q7 : ∀ a, (a = 73 ∨ a = 85 ∨ a = t ∨ (74 ≤ a ∧ a ≤ 74 + 10)) → ¬ (a = 23 ∨ (25 ≤ a ∧ a ≤ 71)) := fun a _ => by omega
  have no : (¬ ∃ i, i < vNs I ∧ x = nI i) → zMi zm_X12_saying (d + 1) [.ref 160, .int x] I L P (q2 (-1)) := fun z => sp_X12_saying hP hS (by omega) (fun _ => q2_s h) (fun i hi e => absurd ⟨i, hi, e⟩ z) (fun i hi e => absurd ⟨i, hi, e⟩ z)
  refine g_X11_saying hP ⟨fun q => qj hP (no ?_), fun q => ⟨t, h.1.2.1, b1, fun q2' => ?_, fun q2' => qj hP (no ?_)⟩⟩
  · rintro ⟨i, hi', rfl⟩
    exact (nI_pos (by omega)) q
  · obtain ⟨i, hi', rfl⟩ : ∃ i, i < vNs I ∧ x = nI i := by
      have : vp_in x (vNs I) := (pin (by omega)).mp ⟨q, fun z => by
        rw [e4, Int32.lt_iff_toInt_lt] at q2'
        rw [Int32.le_iff_toInt_le] at z
        omega⟩
      exact vp_nI this (by omega)
    refine b_say hP hR hs hi' (by omega) (fun I1 f1 r1 => ⟨hP, sp_X4_result hP ?_⟩)
    have em1 : eM I I1 := fun a ha => f1 a (by omega)
    have hR1 : tR I I1 t st b cd := tR_c hR (fun a a1 a2 => f1 a (q5 a a1 a2))
    have hV1 : sV P 73 85 74 t I I1 (vPoss I) g (vGn I) := by
      obtain ⟨w1, w2, w3, w4⟩ := hs
      exact ⟨wH_fr w1 (fun a ha => f1 a (q7 a ha)), w2, by rw [f1 73 (by decide)]; exact w3, w4⟩
    have h73 : I1 73 = I 73 := f1 73 (by decide)
    refine b_hear (r := aRw I (vPoss I) (vGn I) (vSy I i)) hP hS.2.1 hR1 hV1 r1 (by omega) (fun z => ?_) (fun z I2 f2 o2 hV2 => ?_)
    · have h1S : MSc I1 := (Rl_same (M' := I1) h em1).2.1.1
      have ev : aRw I1 (vPoss I1) (vGn I1) (vSy I1 i) (vTw I1) = aRw I (vPoss I) (vGn I) (vSy I i) (vTw I) := by rw [eM_po em1, eM_gn em1, eM_sy em1, eM_rw em1, eM_tw em1]
      refine qj hP (sp_X12_saying hP h1S (by omega) (fun y => absurd ⟨i, by rw [eM_ns em1]; exact hi', rfl⟩ y) (fun i' hi2 e' c I3 ts e39 => ?_) (fun i' hi2 e' c => ?_))
      · rw [eM_po em1, eM_gn em1] at ts
        rw [em1 160 (by decide)] at e39
        exact ⟨rfl, hP, Rn_i (Rl_sn h em1 (fun a ha => f1 a (by omega)) hV1 ts (by rw [h73, h5, e39]) (by rw [h73]; exact h6) ⟨j, hj, by rw [e39]; exact ej⟩)⟩
      · rw [eM_ns em1] at hi2
        have : i' = i := ((nI_eq (by omega) (by omega)).mp e').symm
        subst this
        exact absurd (by rw [ev]; exact z) c
    · have em : eM I I2 := fun a ha => by rw [f2 a (by simp only [List.mem_cons, List.not_mem_nil, or_false]; omega), em1 a ha]
      have h2S : MSc I2 := (Rl_same (M' := I2) h em).2.1.1
      have ev : aRw I2 (vPoss I2) (vGn I2) (vSy I2 i) = aRw I (vPoss I) (vGn I) (vSy I i) := by rw [eM_po em, eM_gn em, eM_sy em, eM_rw em]
      refine qj hP (sp_X12_saying hP h2S (by omega) (fun y => absurd ⟨i, by rw [eM_ns em]; exact hi', rfl⟩ y) (fun i' hi2 e' c => ?_) (fun i' hi2 e' c I3 ts e39 => ?_))
      · rw [eM_ns em] at hi2
        have : i' = i := ((nI_eq (by omega) (by omega)).mp e').symm
        subst this
        rw [ev, eM_tw em] at c
        exact absurd c z
      · rw [eM_ns em] at hi2
        have : i' = i := ((nI_eq (by omega) (by omega)).mp e').symm
        subst this
        rw [ev, eM_gn em, eM_po em] at ts
        rw [ev, eM_po em, eM_n em]
        rw [em 160 (by decide)] at e39
        refine ⟨rfl, hP, Rn_i (Rl_sn h em (fun a ha => by rw [f2 a (by simp only [List.mem_cons, List.not_mem_nil, or_false]; omega), f1 a (by omega)]) hV2 ts (by rw [o2 5 (by decide), h73, h5, e39]) (by rw [o2 6 (by decide), h73]; exact h6) ⟨j, hj, by rw [e39]; exact ej⟩)⟩
  · rintro ⟨i, hi', rfl⟩
    exact q2' (by rw [e4]; exact nI_lt hi' (by omega))
end QF
