/-! ===== class and model: images ===== -/
section QG
variable {d : Nat} {I I' : zI} {L L' : zL} {P P' : zP} {t st : Nat} {b : Nat → Nat} {cd : Nat → Cd}
theorem bx_sc : ∀ k, k < 3 → sc (121 + 13 * k) (133 + 13 * k) (122 + 13 * k) := by
  intro k hk
  have : k = 0 ∨ k = 1 ∨ k = 2 := by omega
  unfold sc
  omega
theorem bx_P (hP : zPk P) {k : Nat} (hk : k < 3) : P 88 k = some (121 + 13 * k) := by
  have : k = 0 ∨ k = 1 ∨ k = 2 := by omega
  rcases this with rfl | rfl | rfl
  · exact hP _ _ _ (by decide +kernel)
  · exact hP _ _ _ (by decide +kernel)
  · exact hP _ _ _ (by decide +kernel)
/-- a scene is copied -/
theorem rSc_cp {M : zI} {s l v s2 l2 v2 : Nat} {g : Nat → Nat → Nat} (h : rSc P s2 l2 v2 t M I g) (hN : vN M ≤ 256) (hsc : sc s l v) (hP' : P' s 1 = some t) (hS : cS s l I' (lP (vPoss M) (vN M))) (h4 : I' s 4 = I s2 4) (h5 : I' s 5 = I s2 5) (h6 : I' s 6 = I s2 6) (hg : ∀ p w, p < 8 → w < 256 → I' (v + 2 + p) w = I (v2 + 2 + p) w) (et : I' t = I t) : rSc P' s l v t M I' g := by
  obtain ⟨⟨⟨w1, w2, w3, w4, w5, w6, w7⟩, a2, a3, a4⟩, b1, b2, b3⟩ := h
  refine ⟨⟨⟨hsc, hS, w3, w4, hP', iH_c w6 et, fun p hp w hw => ?_⟩, a2, by rw [h4]; exact a3, a4⟩, by rw [h5]; exact b1, by rw [h6]; exact b2, b3⟩
  have := w4 w hw
  rw [hg p w (by have := w6.2.1; omega) (by omega)]
  exact w7 p hp w hw
theorem bHd_e {M A B : zI} {k : Nat} (h : bHd M k A) (h' : bHd M k B) : mSe A B := by
  obtain ⟨a1, a2, a3, a4, a5, a6⟩ := h
  obtain ⟨b1, b2, b3, b4, b5, b6⟩ := h'
  exact ⟨fun w hw => (b4 w hw).symm.trans (a4 w hw), fun j hj => (b6 j hj).symm.trans (a6 j hj), fun j hj => (b5 j hj).symm.trans (a5 j hj), b3.symm.trans a3, b1.symm.trans a1, b2.symm.trans a2⟩
theorem nI_n0 {j : Nat} (h : j < 2 ^ 31) : (0 : Int32) ≤ nI j := by
  rw [Int32.le_iff_toInt_le, nI_toInt h]
  have z0 : (0 : Int32).toInt = 0 := by decide
  omega
theorem x3_in {x : Int32} (h0 : ¬ x < 0) (h3 : x < 3) : ∃ k, k < 3 ∧ x = nI k := by
  have : vp_in x 3 := by
    rw [vp_in_iff]
    rw [Int32.lt_iff_toInt_lt] at h0 h3
    have z0 : (0 : Int32).toInt = 0 := by decide
    have z3 : (3 : Int32).toInt = 3 := by decide
    omega
  exact vp_nI this (by decide)
abbrev gw_X11_image (d : Nat) (Q : zQt) (pc : Nat) (lv : zV) (st : List Value) (I : zI) (L : zL) (P : zP) : Prop := zW zm_X11_image (zRm d 0 0) 0 0 Q pc lv st I L P 205 0 0
abbrev v_X11_image (d : Nat) (Q : zQt) (p1 : Int32) (I : zI) (L : zL) (P : zP) : Prop :=
  ((p1 < 0 →
    Q (some (.int (-1))) I L P 205
  ) ∧ (¬ p1 < 0 →
    ((p1 < 3 →
      vp_in p1 3 ∧
      ∃ b4 : Nat, P 88 p1.toNatClampNeg = some b4 ∧
      (b4 < 205 ∧ (zsh b4).1 = 5) ∧
      zMv zm_X6_copy d [.ref b4, .ref 73] I L P (fun I7 L8 P9 =>
        zPk P9 ∧
        ∀ I14 : zI, I14 = zuI I7 89 p1.toNatClampNeg 1 →
        Q (some (.int (I14 73 5))) I14 L8 P9 205
      )
    ) ∧ (¬ p1 < 3 →
      Q (some (.int (-1))) I L P 205
    ))
  ))
set_option maxRecDepth 20000 in
theorem g_X11_image {d : Nat} {Q : zQt} {p1 : Int32} {I : zI} {L : zL} {P : zP} (hP : zPk P) (hv : v_X11_image d Q p1 I L P) : zM zm_X11_image (d + 1) 0 0 [.ref 0, .int p1] I L P 205 Q := by
  unfold v_X11_image at hv
  refine zM_of (lv0 := [some (.ref 0), some (.int p1)]) (by decide +kernel) (Nat.le_of_ble_eq_true rfl) rfl ?_
  refine z_iload_n dX11_image_0 rfl ?_
  refine z_if_lt (tgt := 9) dX11_image_1 (by decide) (fun q1 => ?_) (fun q1 => ?_)
  · have hv := hv.1 q1
    refine z_iconst (v := (-1)) dX11_image_9 (by decide) ?_
    exact z_ireturn dX11_image_10 rfl rfl (Nat.le_refl _) (Nat.le_refl _) hv
  · have hv := hv.2 q1
    refine z_iload_n dX11_image_4 rfl ?_
    refine z_iconst (v := 3) dX11_image_5 (by decide) ?_
    refine z_icmp_lt (tgt := 11) dX11_image_6 (by decide) (fun q2 => ?_) (fun q2 => ?_)
    · have hv := hv.1 q2
      refine z_aload_n dX11_image_11 rfl ?_
      refine z_getP dX11_image_12 zf_X11_68 zn_0 zo_0 (fun _ _ _ _ _ => rfl) (hP 0 8 88 zp_0_8) ?_
      refine z_iload_n dX11_image_15 rfl ?_
      obtain ⟨h3, hv⟩ := hv
      obtain ⟨b4, h5, hv⟩ := hv
      refine z_aaload dX11_image_16 zn_88 zh_88 (Or.inr rfl) h3 h5 ?_
      refine z_aload_n dX11_image_17 rfl ?_
      refine z_getP dX11_image_18 zf_X11_57 zn_0 zo_0 (fun _ _ _ _ _ => rfl) (hP 0 6 73 zp_0_6) ?_
      obtain ⟨h6, hv⟩ := hv
      refine z_callV (As := [.ref 73]) (st := []) dX11_image_21 zl_X11_235 zv_X6_copy (by decide) rfl h6.1 h6.2 rfl rfl (Nat.le_of_ble_eq_true rfl) ⟨Nat.le_refl _, Nat.le_refl _⟩ ⟨Nat.le_refl _, Nat.le_refl _⟩ hv (fun v1 I7 L8 P9 nx1 q10 => ?_)
      obtain ⟨rfl, rfl, hv⟩ := q10
      refine z_aload_n dX11_image_24 rfl ?_
      obtain ⟨h12, hv⟩ := hv
      refine z_getP dX11_image_25 zf_X11_72 zn_0 zo_0 (fun _ _ _ _ _ => rfl) (h12 0 9 89 zp_0_9) ?_
      refine z_iload_n dX11_image_28 rfl ?_
      refine z_iconst (v := 1) dX11_image_29 (by decide) ?_
      refine z_zastore (w := 1) dX11_image_30 zn_89 zh_89 h3 (by decide) (z_nmI (fun I14 e13 => ?_))
      have hv := hv I14 e13
      refine z_aload_n dX11_image_31 rfl ?_
      refine z_getP dX11_image_32 zf_X11_57 zn_0 zo_0 (fun _ _ _ _ _ => rfl) (h12 0 6 73 zp_0_6) ?_
      refine z_getI dX11_image_35 zf_X11_190 zn_73 zo_73 (fun _ _ _ _ _ => rfl) ?_
      exact z_ireturn dX11_image_38 rfl rfl (Nat.le_refl _) (Nat.le_refl _) hv
    · have hv := hv.2 q2
      refine z_iconst (v := (-1)) dX11_image_9 (by decide) ?_
      exact z_ireturn dX11_image_10 rfl rfl (Nat.le_refl _) (Nat.le_refl _) hv
theorem q_image {x : Int32} (h : Rl I I L P t st b cd) (hd : 3 ≤ d) : zMi zm_X11_image d [.ref 0, .int x] I L P (fun r I1 L1 P1 => zPk P1 ∧ zMi zm_X12_image d [.ref 160, .int x] I1 L1 P1 (q2 r)) := by
  obtain ⟨d, rfl⟩ : ∃ e, d = e + 1 := ⟨d - 1, by omega⟩
  have hP := h.1.1
  have hS := h.2.1.1
  have hN := vN_le hS.1.1
  obtain ⟨e0, h8, hi⟩ := Rl_t0 h
  have hil := hi
  unfold il at hil
  obtain ⟨g, hs⟩ := h.2.2.2.2.2.1
  obtain ⟨j, hj, ej⟩ := hs.2.2.2
  have no : (¬ ∃ k, k < 3 ∧ x = nI k) → zMi zm_X12_image (d + 1) [.ref 160, .int x] I L P (q2 (-1)) := fun z => sp_X12_image hP hS (by omega) (fun _ => q2_s h) (fun k hk e => absurd ⟨k, hk, e⟩ z)
  refine g_X11_image hP ⟨fun q => qj hP (no ?_), fun q => ⟨fun q3 => ?_, fun q3 => qj hP (no ?_)⟩⟩
  · rintro ⟨k, hk, rfl⟩
    exact (nI_pos (by omega)) q
  · clear no
    obtain ⟨k, hk, rfl⟩ := x3_in q q3
    have sck := bx_sc k hk
    rw [nI_cl (by omega)]
    refine ⟨nx_in hk (by decide), 121 + 13 * k, bx_P hP hk, (sc_P sck hP).1, sp_X6_copy hP sck (Or.inl ⟨rfl, rfl, rfl⟩) (by omega) (by omega) hs.1.1.2.1 hs.1.1.2.2.2.2.1 (by omega) (fun I7 c7 a1 a2 a3 a4 a5 => ?_)⟩
    have hP7 : zPk (zuP P (121 + 13 * k) 1 (some t)) := zPk_u (zst_s1 sck) hP
    refine ⟨hP7, fun I14 e14 => ?_⟩
    have c14 : ∀ a, ¬ (a = 89 ∨ (121 + 13 * k ≤ a ∧ a ≤ 133 + 13 * k)) → I14 a = I a := fun a ha => by
      rw [e14, zuI_ne (by omega)]
      exact c7 a (by unfold gcs; simp only [List.mem_cons, List.not_mem_nil, or_false]; omega)
    have f89 : ∀ i, I14 89 i = if i = k then 1 else I 89 i := fun i => by
      rw [e14]
      by_cases c : i = k
      · rw [c, zuI_v, if_pos rfl]
      · rw [zuI_o c, if_neg c, c7 89 (by unfold gcs; simp only [List.mem_cons, List.not_mem_nil, or_false]; omega)]
    have em : eM I I14 := fun a ha => c14 a (by omega)
    have hbox : rSc (zuP P (121 + 13 * k) 1 (some t)) (121 + 13 * k) (133 + 13 * k) (122 + 13 * k) t I I14 g := by
      have e7 : ∀ a, a ≠ 89 → I14 a = I7 a := fun a ha => by rw [e14, zuI_ne ha]
      refine rSc_cp hs hN sck (zuP_v _ _ _ _) (cS_c a1 (by rw [e7 _ (by omega)]) (e7 _ (by omega))) (by rw [e7 _ (by omega)]; exact a2) (by rw [e7 _ (by omega)]; exact a3) (by rw [e7 _ (by omega)]; exact a4) (fun p w hp hw => by rw [e7 _ (by omega)]; exact a5 p w hp hw) (c14 t (by omega))
    have h14 := Rl_same (M' := I14) h em
    rw [show I14 73 5 = I 160 39 by rw [c14 73 (by omega)]; exact hs.2.1]
    have e39 : I14 160 39 = I 160 39 := by rw [em 160 (by decide)]
    refine qj hP7 (sp_X12_image hP7 h14.2.1.1 (by omega) (fun z => absurd ⟨k, hk, rfl⟩ z) (fun k' hk' ek I2 f2 b2 o2 => ?_))
    have : k' = k := ((nI_eq (by omega) (by omega)).mp ek).symm
    subst this
    rw [e39]
    have c2 : ∀ a, a < 199 → a ≠ 160 → I2 a = I14 a := fun a ha h' => f2.1 a (by simp only [List.mem_cons, List.not_mem_nil, or_false]; omega) h'
    have s2 : ∀ k, I2 160 k = I 160 k := fun k => by rw [f2.2 k (by simp), em 160 (by decide)]
    have hE2 : mE I14 I2 := ⟨zFr_wk f2 (fun a ha => meC_hi ((by decide : ∀ x ∈ [199, 200, 201, 202, 203, 204], x ∈ [161, 162, 166, 175, 176, 177, 178, 179, 180, 181, 182, 183, 184, 185, 186, 187, 188, 189, 190, 191, 192, 193, 194, 195, 196, 197, 198, 199, 200, 201, 202, 203, 204]) a ha)) (by simp), fun k _ => by rw [c2 166 (by decide) (by decide)], fun k _ => by rw [c2 175 (by decide) (by decide), c2 176 (by decide) (by decide)]; exact ⟨rfl, rfl⟩⟩
    have hS2 : mSe I14 I2 := by
      unfold mSe
      rw [c2 180 (by decide) (by decide), c2 181 (by decide) (by decide), c2 182 (by decide) (by decide), f2.2 38 (by simp), f2.2 39 (by simp), f2.2 40 (by simp)]
      exact mSe_rf I14
    have hE : mE I I2 := mE_tr (mE_c em) hE2
    have hSs : mSe I I2 := mSe_tr (mSe_c em) hS2
    have hG2 : mG I I2 := by
      unfold mG
      rw [c2 189 (by decide) (by decide), c2 190 (by decide) (by decide), c2 191 (by decide) (by decide), c2 192 (by decide) (by decide), c2 197 (by decide) (by decide), s2, s2, em 189 (by decide), em 190 (by decide), em 191 (by decide), em 192 (by decide), em 197 (by decide)]
      exact ⟨⟨rfl, rfl, rfl, rfl, rfl⟩, rfl, rfl⟩
    have mp2 : MP I2 := MP_fr f2 (by decide) (by decide) (by decide) (by decide) (by decide) (by decide) (by decide) (by decide) (by decide) h14.2.1.1.2.2.2.2.2.1
    have cc : ∀ a, a < 160 → ¬ (a = 89 ∨ (121 + 13 * k' ≤ a ∧ a ≤ 133 + 13 * k')) → I2 a = I a := fun a a1 a2 => by rw [c2 a (by omega) (by omega), c14 a a2]
    have hbx : rBx I2 I2 (zuP P (121 + 13 * k') 1 (some t)) t := by
      intro i hi'
      rw [c2 89 (by decide) (by decide), f89 i]
      by_cases c : i = k'
      · subst c
        have e199 : I2 199 i = nI j := by rw [b2.1, e39]; exact ej
        rw [if_pos rfl, e199, bP_t (nI_n0 (by omega))]
        refine ⟨rfl, fun _ => ⟨I14, b2, mE_sy hE2, h14.2.1.1, h14.2.1.2.1, g, rSc_c (rSc_m hbox (mE_c em) (mSe_c em) hS) (fun a ha => c2 a (by omega) (by omega)) rfl⟩⟩
      · obtain ⟨x1, x2⟩ := h.2.2.2.2.2.2.1 i hi'
        obtain ⟨o1, o2', o3, o4, o5, o6⟩ := o2 i c
        rw [if_neg c, o1, em 199 (by decide)]
        refine ⟨x1, fun z => ?_⟩
        obtain ⟨Mb, y1, y2, y3, y4, g', y5⟩ := x2 z
        refine ⟨Mb, ?_, mE_tr (mE_sy hE) y2, y3, y4, g', rSc_c y5 (fun a ha => cc a (by omega) (by omega)) (by rw [zuP_ne (by omega)])⟩
        obtain ⟨v1, v2, v3, v4, v5, v6⟩ := y1
        refine ⟨by rw [o1, em 199 (by decide)]; exact v1, by rw [o2', em 200 (by decide)]; exact v2, by rw [o3, em 201 (by decide)]; exact v3, fun w hw => by rw [o4 w hw, em 203 (by decide)]; exact v4 w hw, fun w hw => by rw [o5 w hw, em 202 (by decide)]; exact v5 w hw, fun w hw => by rw [o6 w hw, em 204 (by decide)]; exact v6 w hw⟩
    have evt : vTp I2 = vTp I := by unfold vTp; rw [s2]
    have e161 : I2 161 = I 161 := by rw [c2 161 (by decide) (by decide), em 161 (by decide)]
    have evT : vTt I2 = vTt I := by funext k; unfold vTt; rw [e161]
    refine ⟨rfl, hP7, Rn_i (Rl_mk h hE (mSe_MSc hE hSs mp2 hS h.2.1.2.1) ⟨?_, ?_⟩ ?_ ⟨mG_H hG2 h.2.1.2.2.2.1, by rw [s2]; exact h.2.1.2.2.2.2, sgR_c (mE_sg hE hG2 h.2.2.2.2.2.2.2.1) (fun a a1 a2 => cc a (by omega) (by omega))⟩ ⟨g, rSc_c (rSc_m hs hE hSs hS) (fun a ha => cc a (by omega) (by omega)) (by rw [zuP_ne (by omega)])⟩ hbx (fun a a1 a2 => cc a (by omega) (by omega)) (gK_c h.2.2.2.2.2.2.2.2.1 hS.2.2.1.1 (fun a a1 a2 => cc a (by omega) (by omega))) (fun _ _ => rfl) hP7 ⟨by rw [zuP_ne (by omega)], by rw [zuP_ne (by omega)]⟩)⟩
    · unfold MTp; rw [evt, s2, e161]; exact h.2.1.2.2.1
    · rw [evt, evT]; exact tpR_c h.2.2.2.1 (cc 1 (by decide) (by omega)) (cc 2 (by decide) (by omega))
    · rw [cc 17 (by decide) (by omega), s2, s2]; exact h.2.2.2.2.1
  · rintro ⟨k, hk, rfl⟩
    exact q3 (nI_lt hk (by decide))
abbrev gw_X11_back (d : Nat) (Q : zQt) (pc : Nat) (lv : zV) (st : List Value) (I : zI) (L : zL) (P : zP) : Prop := zW zm_X11_back (zRm d 0 0) 0 0 Q pc lv st I L P 205 0 0
abbrev v_X11_back (d : Nat) (Q : zQt) (p1 : Int32) (I : zI) (L : zL) (P : zP) : Prop :=
  ((p1 < 0 →
    Q (some (.int (-1))) I L P 205
  ) ∧ (¬ p1 < 0 →
    ((3 ≤ p1 →
      Q (some (.int (-1))) I L P 205
    ) ∧ (¬ 3 ≤ p1 →
      vp_in p1 3 ∧
      ((¬ (I 89 p1.toNatClampNeg) = 0 →
        ∃ b5 : Nat, P 88 p1.toNatClampNeg = some b5 ∧
        zMv zm_X6_copy d [.ref 73, .ref b5] I L P (fun I7 L8 P9 =>
          zPk P9 ∧
          Q (some (.int (I7 73 5))) I7 L8 P9 205
        )
      ) ∧ ((I 89 p1.toNatClampNeg) = 0 →
        Q (some (.int (-1))) I L P 205
      ))
    ))
  ))
set_option maxRecDepth 20000 in
theorem g_X11_back {d : Nat} {Q : zQt} {p1 : Int32} {I : zI} {L : zL} {P : zP} (hP : zPk P) (hv : v_X11_back d Q p1 I L P) : zM zm_X11_back (d + 1) 0 0 [.ref 0, .int p1] I L P 205 Q := by
  unfold v_X11_back at hv
  refine zM_of (lv0 := [some (.ref 0), some (.int p1)]) (by decide +kernel) (Nat.le_of_ble_eq_true rfl) rfl ?_
  refine z_iload_n dX11_back_0 rfl ?_
  refine z_if_lt (tgt := 18) dX11_back_1 (by decide) (fun q1 => ?_) (fun q1 => ?_)
  · have hv := hv.1 q1
    refine z_iconst (v := (-1)) dX11_back_18 (by decide) ?_
    exact z_ireturn dX11_back_19 rfl rfl (Nat.le_refl _) (Nat.le_refl _) hv
  · have hv := hv.2 q1
    refine z_iload_n dX11_back_4 rfl ?_
    refine z_iconst (v := 3) dX11_back_5 (by decide) ?_
    refine z_icmp_ge (tgt := 18) dX11_back_6 (by decide) (fun q2 => ?_) (fun q2 => ?_)
    · have hv := hv.1 q2
      refine z_iconst (v := (-1)) dX11_back_18 (by decide) ?_
      exact z_ireturn dX11_back_19 rfl rfl (Nat.le_refl _) (Nat.le_refl _) hv
    · have hv := hv.2 q2
      refine z_aload_n dX11_back_9 rfl ?_
      refine z_getP dX11_back_10 zf_X11_72 zn_0 zo_0 (fun _ _ _ _ _ => rfl) (hP 0 9 89 zp_0_9) ?_
      refine z_iload_n dX11_back_13 rfl ?_
      obtain ⟨h3, hv⟩ := hv
      refine z_zaload dX11_back_14 zn_89 zh_89 h3 ?_
      refine z_if_ne (tgt := 20) dX11_back_15 (by decide) (fun q4 => ?_) (fun q4 => ?_)
      · have hv := hv.1 q4
        refine z_aload_n dX11_back_20 rfl ?_
        refine z_getP dX11_back_21 zf_X11_57 zn_0 zo_0 (fun _ _ _ _ _ => rfl) (hP 0 6 73 zp_0_6) ?_
        refine z_aload_n dX11_back_24 rfl ?_
        refine z_getP dX11_back_25 zf_X11_68 zn_0 zo_0 (fun _ _ _ _ _ => rfl) (hP 0 8 88 zp_0_8) ?_
        refine z_iload_n dX11_back_28 rfl ?_
        obtain ⟨b5, h6, hv⟩ := hv
        refine z_aaload dX11_back_29 zn_88 zh_88 (Or.inr rfl) h3 h6 ?_
        refine z_callV (As := [.ref b5]) (st := []) dX11_back_30 zl_X11_235 zv_X6_copy (by decide) rfl zn_73 zo_73 rfl rfl (Nat.le_of_ble_eq_true rfl) ⟨Nat.le_refl _, Nat.le_refl _⟩ ⟨Nat.le_refl _, Nat.le_refl _⟩ hv (fun v1 I7 L8 P9 nx1 q10 => ?_)
        obtain ⟨rfl, rfl, hv⟩ := q10
        refine z_aload_n dX11_back_33 rfl ?_
        obtain ⟨h12, hv⟩ := hv
        refine z_getP dX11_back_34 zf_X11_57 zn_0 zo_0 (fun _ _ _ _ _ => rfl) (h12 0 6 73 zp_0_6) ?_
        refine z_getI dX11_back_37 zf_X11_190 zn_73 zo_73 (fun _ _ _ _ _ => rfl) ?_
        exact z_ireturn dX11_back_40 rfl rfl (Nat.le_refl _) (Nat.le_refl _) hv
      · have hv := hv.2 q4
        refine z_iconst (v := (-1)) dX11_back_18 (by decide) ?_
        exact z_ireturn dX11_back_19 rfl rfl (Nat.le_refl _) (Nat.le_refl _) hv
theorem q_back {x : Int32} (h : Rl I I L P t st b cd) (hd : 3 ≤ d) : zMi zm_X11_back d [.ref 0, .int x] I L P (fun r I1 L1 P1 => zPk P1 ∧ zMi zm_X12_back d [.ref 160, .int x] I1 L1 P1 (q2 r)) := by
  obtain ⟨d, rfl⟩ : ∃ e, d = e + 1 := ⟨d - 1, by omega⟩
  have hP := h.1.1
  have hS := h.2.1.1
  obtain ⟨e0, h8, hi⟩ := Rl_t0 h
  have hil := hi
  unfold il at hil
  have hB := h.2.2.2.2.2.2.1
  have hZb : ∀ k, k < 3 → 0 ≤ I 199 k → MZb I k := by
    intro k hk z
    obtain ⟨Mb, y1, y2, y3, -⟩ := (hB k hk).2 z
    have zz := y3.2.2.2.2.1
    exact ⟨fun w hw => by rw [y1.2.2.2.1 w hw]; exact zz.1 w hw, fun w hw => by rw [y1.2.2.2.2.2 w hw]; exact zz.2 w hw⟩
  have no : (¬ ∃ k, k < 3 ∧ x = nI k ∧ 0 ≤ I 199 k) → zMi zm_X12_back (d + 1) [.ref 160, .int x] I L P (q2 (-1)) := fun z => sp_X12_back hP (by omega) hZb (fun _ => q2_s h) (fun k hk e y => absurd ⟨k, hk, e, y⟩ z)
  refine g_X11_back hP ⟨fun q => qj hP (no ?_), fun q => ⟨fun q3 => qj hP (no ?_), fun q3 => ?_⟩⟩
  · rintro ⟨k, hk, rfl, -⟩
    exact (nI_pos (by omega)) q
  · rintro ⟨k, hk, rfl, -⟩
    exact (nI_ge hk (by decide)) q3
  · obtain ⟨k, hk, rfl⟩ := x3_in q (by
      rw [Int32.lt_iff_toInt_lt]
      rw [Int32.le_iff_toInt_le] at q3
      omega)
    rw [nI_cl (by omega)]
    obtain ⟨x1, x2⟩ := hB k hk
    rw [x1]
    refine ⟨nx_in hk (by decide), fun z => ⟨121 + 13 * k, bx_P hP hk, ?_⟩, fun z => qj hP (no ?_)⟩
    · clear no
      rw [bP_n] at z
      obtain ⟨Mb, y1, y2, y3, y4, g, y5⟩ := x2 z
      have hNb := vN_le y3.1.1
      have sck := bx_sc k hk
      refine sp_X6_copy hP (Or.inl ⟨rfl, rfl, rfl⟩) sck (by omega) (by omega) y5.1.1.2.1 y5.1.1.2.2.2.2.1 (by omega) (fun I7 c7 a1 a2 a3 a4 a5 => ?_)
      have hP7 : zPk (zuP P 73 1 (some t)) := zPk_u (zst_s1 (Or.inl ⟨rfl, rfl, rfl⟩)) hP
      have cc7 : ∀ a, ¬ (73 ≤ a ∧ a ≤ 85) → I7 a = I a := fun a ha => c7 a (by unfold gcs; simp only [List.mem_cons, List.not_mem_nil, or_false]; omega)
      have em : eM I I7 := fun a ha => cc7 a (by omega)
      have hsc7 : rSc (zuP P 73 1 (some t)) 73 85 74 t Mb I7 g := rSc_cp y5 hNb (Or.inl ⟨rfl, rfl, rfl⟩) (zuP_v _ _ _ _) a1 a2 a3 a4 a5 (cc7 t (by omega))
      refine ⟨hP7, ?_⟩
      have r5 : I7 73 5 = I 199 k := by rw [hsc7.2.1, y1.1]
      rw [r5]
      refine qj hP7 (sp_X12_back hP7 (by omega) (fun i hi' w => ?_) (fun w => absurd ⟨k, hk, rfl, by rw [em 199 (by decide)]; exact z⟩ w) (fun k' hk' ek z' I2 f2 b2 m46 => ?_))
      · rw [em 199 (by decide)] at w
        have := hZb i hi' w
        unfold MZb at this ⊢
        rw [em 203 (by decide), em 204 (by decide)]
        exact this
      · have : k' = k := ((nI_eq (by omega) (by omega)).mp ek).symm
        subst this
        rw [em 199 (by decide)]
        have c2 : ∀ a, a ≠ 160 → a ≠ 180 → a ≠ 181 → a ≠ 182 → I2 a = I7 a := fun a h1 h2 h3 h4 => f2.1 a (by simp only [List.mem_cons, List.not_mem_nil, or_false]; omega) h1
        have s2 : ∀ s, s ≠ 38 → s ≠ 39 → s ≠ 40 → s ≠ 46 → I2 160 s = I 160 s := fun s h1 h2 h3 h4 => by rw [f2.2 s (by simp only [List.mem_cons, List.not_mem_nil, or_false]; omega), em 160 (by decide)]
        have hE2 : mE I7 I2 := ⟨zFr_wk f2 (fun a ha => meC_hi ((by decide : ∀ x ∈ [180, 181, 182], x ∈ [161, 162, 166, 175, 176, 177, 178, 179, 180, 181, 182, 183, 184, 185, 186, 187, 188, 189, 190, 191, 192, 193, 194, 195, 196, 197, 198, 199, 200, 201, 202, 203, 204]) a ha)) (by decide), fun k _ => by rw [c2 166 (by decide) (by decide) (by decide) (by decide)], fun k _ => by rw [c2 175 (by decide) (by decide) (by decide) (by decide), c2 176 (by decide) (by decide) (by decide) (by decide)]; exact ⟨rfl, rfl⟩⟩
        have hE : mE I I2 := mE_tr (mE_c em) hE2
        have hEb : mE Mb I2 := mE_tr (mE_sy y2) hE
        have hSb : mSe Mb I2 := by
          have b7 : bHd I k' I2 := by
            unfold bHd at b2 ⊢
            rw [em 199 (by decide), em 200 (by decide), em 201 (by decide), em 202 (by decide), em 203 (by decide), em 204 (by decide)] at b2
            exact b2
          exact bHd_e y1 b7
        have ho : bOt I I2 3 := by
          intro c _
          rw [c2 199 (by decide) (by decide) (by decide) (by decide), c2 200 (by decide) (by decide) (by decide) (by decide), c2 201 (by decide) (by decide) (by decide) (by decide), c2 202 (by decide) (by decide) (by decide) (by decide), c2 203 (by decide) (by decide) (by decide) (by decide), c2 204 (by decide) (by decide) (by decide) (by decide), em 199 (by decide), em 200 (by decide), em 201 (by decide), em 202 (by decide), em 203 (by decide), em 204 (by decide)]
          exact ⟨rfl, rfl, rfl, fun _ _ => rfl, fun _ _ => rfl, fun _ _ => rfl⟩
        have hG2 : mG I I2 := by
          unfold mG
          rw [c2 189 (by decide) (by decide) (by decide) (by decide), c2 190 (by decide) (by decide) (by decide) (by decide), c2 191 (by decide) (by decide) (by decide) (by decide), c2 192 (by decide) (by decide) (by decide) (by decide), c2 197 (by decide) (by decide) (by decide) (by decide), s2 59 (by decide) (by decide) (by decide) (by decide), s2 60 (by decide) (by decide) (by decide) (by decide), em 189 (by decide), em 190 (by decide), em 191 (by decide), em 192 (by decide), em 197 (by decide)]
          exact ⟨⟨rfl, rfl, rfl, rfl, rfl⟩, rfl, rfl⟩
        have cc : ∀ a, a < 160 → ¬ (73 ≤ a ∧ a ≤ 85) → I2 a = I a := fun a a1 a2 => by rw [c2 a (by omega) (by omega) (by omega) (by omega), cc7 a a2]
        have e2 := s2 2 (by decide) (by decide) (by decide) (by decide)
        have evt : vTp I2 = vTp I := by unfold vTp; rw [e2]
        have e161 : I2 161 = I 161 := by rw [c2 161 (by decide) (by decide) (by decide) (by decide), em 161 (by decide)]
        have evT : vTt I2 = vTt I := by funext k; unfold vTt; rw [e161]
        refine ⟨rfl, hP7, Rn_i (Rl_mk h hE (mSe_MSc hEb hSb (Or.inl m46) y3 y4) ⟨?_, ?_⟩ ?_ ⟨mG_H hG2 h.2.1.2.2.2.1, by rw [hG2.2.2]; exact h.2.1.2.2.2.2, sgR_c (mE_sg hE hG2 h.2.2.2.2.2.2.2.1) (fun a a1 a2 => cc a (by omega) (by omega))⟩ ⟨g, rSc_c (rSc_m hsc7 hEb hSb y3) (fun a ha => c2 a (by omega) (by omega) (by omega) (by omega)) rfl⟩ (rBx_m (rBx_c hi hB (cc 89 (by decide) (by decide)) (cc t (by omega) (by omega)) (fun a a1 a2 => cc a (by omega) (by omega)) (fun i hi' => by rw [zuP_ne (by omega)])) hE ho) (fun a a1 a2 => cc a (by omega) (by omega)) (gK_c h.2.2.2.2.2.2.2.2.1 hS.2.2.1.1 (fun a a1 a2 => cc a (by omega) (by omega))) (fun _ _ => rfl) hP7 ⟨by rw [zuP_ne (by decide)], by rw [zuP_ne (by decide)]⟩)⟩
        · unfold MTp; rw [evt, e2, e161]; exact h.2.1.2.2.1
        · rw [evt, evT]; exact tpR_c h.2.2.2.1 (cc 1 (by decide) (by decide)) (cc 2 (by decide) (by decide))
        · rw [cc 17 (by decide) (by decide), s2 4 (by decide) (by decide) (by decide) (by decide), s2 5 (by decide) (by decide) (by decide) (by decide)]; exact h.2.2.2.2.1
    · rw [bP_0] at z
      rintro ⟨k', hk', e, y⟩
      have : k = k' := (nI_eq (by omega) (by omega)).mp e
      subst this
      exact z y
end QG
