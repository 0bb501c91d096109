/-! ===== the model: ask, holds, say, deep, whisper ===== -/
abbrev wC : List Nat := [162, 166, 175, 176, 177, 178, 179, 183, 184, 185, 186, 187]
abbrev wL : List Nat := [2, 3, 4, 5, 6, 7, 8, 9, 29, 30, 31, 32, 33, 34, 46]
/-- all that stays when a formula is read and worked out -/
def wFr (I : zI) (L : zL) (I' : zI) (L' : zL) : Prop := zFr wC wL I I' ∧ zLn L L' ∧ I' 160 2 = 0 ∧ (∀ k, k ≠ 2 → I' 166 k = I 166 k) ∧ (∀ k, k < 1400 → I' 175 k = I 175 k ∧ I' 176 k = I 176 k) ∧ MP I'
theorem wFr_MSc {I I' : zI} {L L' : zL} (hS : MSc I) (hb : MCb I) (h : wFr I L I' L') : MSc I' ∧ MCb I' := by
  obtain ⟨f, -, -, -, h5, h6⟩ := h
  obtain ⟨hE, hT, hC, hG, hZ, hM, hpt⟩ := hS
  obtain ⟨c1, c2, -⟩ := MC_lo f (by decide) (by decide) (by decide) (by decide) (by decide) h5 hE.1 hb hC
  refine ⟨⟨ME_fr f (by decide) (by decide) (by decide) (by decide) (by decide) hE, MT_fr f (by decide) (by decide) (by decide) hT, c1, MG_fr f (by decide) hG, ⟨?_, ?_⟩, h6, ?_⟩, c2⟩
  · rw [f.1 180 (by decide) (by decide)]; exact hZ.1
  · rw [f.1 181 (by decide) (by decide)]; exact hZ.2
  · rw [vPoss_fr f (by decide), vTw_fr f (by decide) (by decide)]; exact hpt
/-- what the tape says of itself -/
def tX (I : zI) (T : Nat → Int32) (n : Nat) : Prop := n = vTp I ∧ ∀ k, k < n → T k = vTt I k
theorem rd_work {d : Nat} {I : zI} {L : zL} {P : zP} (hP : zPk P) (hS : MSc I) (hb : MCb I) (hT : MTp I) (hd : 7 ≤ d) {Kw K0 : zI → zL → zP → Prop}
    (k0 : ∀ T n, tX I T n → ∀ q, aRd T n (nmB I L) = .inl q → (q.1 ≠ 0 ∧ q.1 < 100) → ∀ I' L', wFr I L I' L' → I' 160 4 = nI q.1 → I' 160 5 = nI q.2 → K0 I' L' P)
    (kw : ∀ T n, tX I T n → ∀ e u c, aRd T n (nmB I L) = rO e u c → cQ (vNp I) 0 0 u c → ∀ I' L', wFr I L I' L' → I' 160 4 = 0 → I' 160 5 = -1 → (∀ w, w < vN I → I' 183 w = aRw I (vPoss I) (vGn I) (cMp c) w) → Kw I' L' P) :
    zMi zm_X12_readAlone d [.ref 160] I L P (fun r5 I1 L2 P3 => (¬ r5 = 0 → zMv zm_X12_work d [.ref 160, .int 1400, .int (I1 160 32)] I1 L2 P3 Kw) ∧ (r5 = 0 → K0 I1 L2 P3)) := by
  refine sp_X12_readAlone hP hS.1.1 hT (by omega) (fun T n hn hT' => ⟨fun q h1 h2 I' L' h3 h4 h5 => ⟨fun z => absurd rfl z, fun _ => k0 T n ⟨hn, hT'⟩ q h1 h2 I' L' ?_ h4 h5⟩, fun e u c h1 I' L' h3 h4 h5 h6 h7 h8 h9 => ⟨fun _ => ?_, fun z => absurd z (by decide)⟩⟩)
  · exact ⟨zFr_wk h3.1 (by decide) (by decide), h3.2.1, h3.2.2.1, h3.2.2.2.1, h3.2.2.2.2, MP_fr h3.1 (by decide) (by decide) (by decide) (by decide) (by decide) (by decide) (by decide) (by decide) (by decide) hS.2.2.2.2.2.1⟩
  · have f := h3.1
    have hw : wFr I L I' L' := ⟨zFr_wk h3.1 (by decide) (by decide), h3.2.1, h3.2.2.1, h3.2.2.2.1, h3.2.2.2.2, MP_fr h3.1 (by decide) (by decide) (by decide) (by decide) (by decide) (by decide) (by decide) (by decide) (by decide) hS.2.2.2.2.2.1⟩
    obtain ⟨hS', -⟩ := wFr_MSc hS hb hw
    have eN := vN_fr f (by decide) (by decide)
    have eP := vNp_fr f (by decide) (by decide)
    rw [h6]
    refine sp_X12_work (fr := 1400) hP hS'.1 (MZ_MO hS'.1.1 hS'.2.2.2.2.1) hS'.2.2.2.2.2.1 (by omega) ?_ hd (fun I2 a1 a2 a3 => kw T n ⟨hn, hT'⟩ e u c h1 h9 I2 L' ⟨zFr_tr hw.1 (zFr_wk a1 (by decide) (by decide)), hw.2.1, ?_, fun k hk => ?_, fun k hk => ?_, a2⟩ ?_ ?_ (fun w hw' => ?_))
    · rw [h7, eP]
      obtain ⟨z1, z2⟩ := h9.2.1 0 (by decide)
      exact ⟨z1, z2⟩
    · rw [a1.2 2 (by decide)]; exact h3.2.2.1
    · rw [a1.1 166 (by decide) (by decide)]; exact h3.2.2.2.1 k hk
    · rw [a1.1 175 (by decide) (by decide), a1.1 176 (by decide) (by decide)]; exact h3.2.2.2.2 k hk
    · rw [a1.2 4 (by decide)]; exact h4
    · rw [a1.2 5 (by decide)]; exact h5
    · rw [a3 w (by omega), h7]
      unfold eVal aRw
      rw [eP, eN, vPoss_fr f (by decide), vLike_fr' f (by decide) (by decide) (by decide) (by decide) (by decide) (by decide), f.2 40 (by decide), hS.2.2.2.1.2]
abbrev gw_X12_ask (d : Nat) (Q : zQt) (pc : Nat) (lv : zV) (st : List Value) (I : zI) (L : zL) (P : zP) : Prop := zW zm_X12_ask (zRm d 0 0) 0 0 Q pc lv st I L P 205 0 0
abbrev v_X12_ask (d : Nat) (Q : zQt)  (I : zI) (L : zL) (P : zP) : Prop :=
  zMi zm_X12_readAlone d [.ref 160] I L P (fun r5 I1 L2 P3 =>
    ((¬ r5 = 0 →
      zMv zm_X12_work d [.ref 160, .int 1400, .int (I1 160 32)] I1 L2 P3 (fun I7 L8 P9 =>
        zPk P9 ∧
        MB I7 ∧
        MT I7 ∧
        vp_in (nI (vTw I7)) 12288 ∧
        Q (some (.int (I7 183 (nI (vTw I7)).toNatClampNeg))) I7 L8 P9 205
      )
    ) ∧ (r5 = 0 →
      Q (some (.int (-1000000))) I1 L2 P3 205
    ))
  )
set_option maxRecDepth 20000 in
theorem g_X12_ask {d : Nat} {Q : zQt}  {I : zI} {L : zL} {P : zP} (hP : zPk P) (hv : v_X12_ask d Q  I L P) : zM zm_X12_ask (d + 1) 0 0 [.ref 160] I L P 205 Q := by
  unfold v_X12_ask at hv
  refine zM_of (lv0 := [some (.ref 160)]) (by decide +kernel) (Nat.le_of_ble_eq_true rfl) rfl ?_
  refine z_aload_n dX12_ask_0 rfl ?_
  refine z_callV (As := []) (st := []) dX12_ask_1 zl_X12_403 zv_X12_readAlone (by decide) rfl zn_160 zo_160 rfl rfl (Nat.le_of_ble_eq_true rfl) ⟨Nat.le_refl _, Nat.le_refl _⟩ ⟨Nat.le_refl _, Nat.le_refl _⟩ hv (fun v1 I1 L2 P3 nx1 q4 => ?_)
  obtain ⟨rfl, r5, rfl, hv⟩ := q4
  refine z_if_ne (tgt := 11) dX12_ask_4 (by decide) (fun q6 => ?_) (fun q6 => ?_)
  · have hv := hv.1 q6
    refine z_aload_n dX12_ask_11 rfl ?_
    refine z_sipush (v := 1400) dX12_ask_12 (by decide) ?_
    refine z_aload_n dX12_ask_15 rfl ?_
    refine z_getI dX12_ask_16 zf_X12_246 zn_160 zo_160 (fun _ _ _ _ _ => rfl) ?_
    refine z_callV (As := [.int 1400, .int (I1 160 32)]) (st := []) dX12_ask_19 zl_X12_407 zv_X12_work (by decide) rfl zn_160 zo_160 rfl rfl (Nat.le_of_ble_eq_true rfl) ⟨Nat.le_refl _, Nat.le_refl _⟩ ⟨Nat.le_refl _, Nat.le_refl _⟩ hv (fun v1 I7 L8 P9 nx1 q10 => ?_)
    obtain ⟨rfl, rfl, hv⟩ := q10
    refine z_aload_n dX12_ask_22 rfl ?_
    obtain ⟨h12, hv⟩ := hv
    refine z_getP dX12_ask_23 zf_X12_83 zn_160 zo_160 (fun _ _ _ _ _ => rfl) (h12 160 41 183 zp_160_41) ?_
    refine z_aload_n dX12_ask_26 rfl ?_
    obtain ⟨h13, hv⟩ := hv
    obtain ⟨h14, hv⟩ := hv
    refine z_callV (As := []) (st := [.ref 183]) dX12_ask_27 zl_X12_410 zv_X12_theTrue (by decide) rfl zn_160 zo_160 rfl rfl (Nat.le_of_ble_eq_true rfl) ⟨Nat.le_refl _, Nat.le_refl _⟩ ⟨Nat.le_refl _, Nat.le_refl _⟩ (sp_X12_theTrue h12 h13 h14 (K := fun r I' L' P' => nI (vTw I7) = r ∧ I7 = I' ∧ L8 = L' ∧ P9 = P') ⟨rfl, rfl, rfl, rfl⟩) (fun v1 I2 L2 P2 nx1 q16 => ?_)
    obtain ⟨rfl, r15, rfl, rfl, rfl, rfl, rfl⟩ := q16
    obtain ⟨h17, hv⟩ := hv
    refine z_iaload dX12_ask_30 zn_183 zh_183 h17 ?_
    exact z_ireturn dX12_ask_31 rfl rfl (Nat.le_refl _) (Nat.le_refl _) hv
  · have hv := hv.2 q6
    refine z_ldc_w (v := (-1000000)) dX12_ask_7 zi_X12_406 ?_
    exact z_ireturn dX12_ask_10 rfl rfl (Nat.le_refl _) (Nat.le_refl _) hv
theorem sp_X12_ask {d : Nat} {I : zI} {L : zL} {P : zP} (hP : zPk P) (hS : MSc I) (hb : MCb I) (hT : MTp I) (hd : 8 ≤ d) {K : Int32 → zI → zL → zP → Prop}
    (k0 : ∀ T n, tX I T n → ∀ q, aRd T n (nmB I L) = .inl q → (q.1 ≠ 0 ∧ q.1 < 100) → ∀ I' L', wFr I L I' L' → I' 160 4 = nI q.1 → I' 160 5 = nI q.2 → K (-1000000) I' L' P)
    (kw : ∀ T n, tX I T n → ∀ e u c, aRd T n (nmB I L) = rO e u c → cQ (vNp I) 0 0 u c → ∀ I' L', wFr I L I' L' → I' 160 4 = 0 → I' 160 5 = -1 → K (aRw I (vPoss I) (vGn I) (cMp c) (vTw I)) I' L' P) : zMi zm_X12_ask d [.ref 160] I L P K := by
  obtain ⟨d, rfl⟩ : ∃ e, d = e + 1 := ⟨d - 1, by omega⟩
  have ht := hS.2.1.1
  have hN := vN_le hS.1.1
  refine g_X12_ask hP (rd_work hP hS hb hT (by omega) (fun T n hx q h1 h2 I' L' h3 h4 h5 => qi (k0 T n hx q h1 h2 I' L' h3 h4 h5)) (fun T n hx e u c h1 h2 I' L' h3 h4 h5 h6 => ?_))
  obtain ⟨hS', -⟩ := wFr_MSc hS hb h3
  have eT := vTw_fr h3.1 (by decide) (by decide)
  refine ⟨hP, hS'.1.1, hS'.2.1, by rw [eT]; exact nx_in (by omega) (by decide), qi ?_⟩
  rw [eT, nI_cl (by omega), h6 _ ht]
  exact kw T n hx e u c h1 h2 I' L' h3 h4 h5
abbrev gw_X12_say (d : Nat) (Q : zQt) (pc : Nat) (lv : zV) (st : List Value) (I : zI) (L : zL) (P : zP) : Prop := zW zm_X12_say (zRm d 0 0) 0 0 Q pc lv st I L P 205 0 0
abbrev v_X12_say (d : Nat) (Q : zQt)  (I : zI) (L : zL) (P : zP) : Prop :=
  zMi zm_X12_readAlone d [.ref 160] I L P (fun r5 I1 L2 P3 =>
    ((¬ r5 = 0 →
      zMv zm_X12_work d [.ref 160, .int 1400, .int (I1 160 32)] I1 L2 P3 (fun I7 L8 P9 =>
        zMi zm_X12_strike d [.ref 160] I7 L8 P9 (fun r16 I12 L13 P14 =>
          Q (some (.int r16)) I12 L13 P14 205
        )
      )
    ) ∧ (r5 = 0 →
      Q (some (.int (-1))) I1 L2 P3 205
    ))
  )
set_option maxRecDepth 20000 in
theorem g_X12_say {d : Nat} {Q : zQt}  {I : zI} {L : zL} {P : zP} (hP : zPk P) (hv : v_X12_say d Q  I L P) : zM zm_X12_say (d + 1) 0 0 [.ref 160] I L P 205 Q := by
  unfold v_X12_say at hv
  refine zM_of (lv0 := [some (.ref 160)]) (by decide +kernel) (Nat.le_of_ble_eq_true rfl) rfl ?_
  refine z_aload_n dX12_say_0 rfl ?_
  refine z_callV (As := []) (st := []) dX12_say_1 zl_X12_403 zv_X12_readAlone (by decide) rfl zn_160 zo_160 rfl rfl (Nat.le_of_ble_eq_true rfl) ⟨Nat.le_refl _, Nat.le_refl _⟩ ⟨Nat.le_refl _, Nat.le_refl _⟩ hv (fun v1 I1 L2 P3 nx1 q4 => ?_)
  obtain ⟨rfl, r5, rfl, hv⟩ := q4
  refine z_if_ne (tgt := 9) dX12_say_4 (by decide) (fun q6 => ?_) (fun q6 => ?_)
  · have hv := hv.1 q6
    refine z_aload_n dX12_say_9 rfl ?_
    refine z_sipush (v := 1400) dX12_say_10 (by decide) ?_
    refine z_aload_n dX12_say_13 rfl ?_
    refine z_getI dX12_say_14 zf_X12_246 zn_160 zo_160 (fun _ _ _ _ _ => rfl) ?_
    refine z_callV (As := [.int 1400, .int (I1 160 32)]) (st := []) dX12_say_17 zl_X12_407 zv_X12_work (by decide) rfl zn_160 zo_160 rfl rfl (Nat.le_of_ble_eq_true rfl) ⟨Nat.le_refl _, Nat.le_refl _⟩ ⟨Nat.le_refl _, Nat.le_refl _⟩ hv (fun v1 I7 L8 P9 nx1 q10 => ?_)
    obtain ⟨rfl, rfl, hv⟩ := q10
    refine z_aload_n dX12_say_20 rfl ?_
    refine z_callV (As := []) (st := []) dX12_say_21 zl_X12_416 zv_X12_strike (by decide) rfl zn_160 zo_160 rfl rfl (Nat.le_of_ble_eq_true rfl) ⟨Nat.le_refl _, Nat.le_refl _⟩ ⟨Nat.le_refl _, Nat.le_refl _⟩ hv (fun v1 I12 L13 P14 nx1 q15 => ?_)
    obtain ⟨rfl, r16, rfl, hv⟩ := q15
    exact z_ireturn dX12_say_24 rfl rfl (Nat.le_refl _) (Nat.le_refl _) hv
  · have hv := hv.2 q6
    refine z_iconst (v := (-1)) dX12_say_7 (by decide) ?_
    exact z_ireturn dX12_say_8 rfl rfl (Nat.le_refl _) (Nat.le_refl _) hv
theorem sp_X12_say {d : Nat} {I : zI} {L : zL} {P : zP} (hP : zPk P) (hS : MSc I) (hb : MCb I) (hT : MTp I) (hd : 8 ≤ d) {K : Int32 → zI → zL → zP → Prop}
    (k0 : ∀ T n, tX I T n → ∀ q, aRd T n (nmB I L) = .inl q → (q.1 ≠ 0 ∧ q.1 < 100) → ∀ I' L', wFr I L I' L' → I' 160 4 = nI q.1 → I' 160 5 = nI q.2 → K (-1) I' L' P)
    (k1 : ∀ T n, tX I T n → ∀ e u c, aRd T n (nmB I L) = rO e u c → cQ (vNp I) 0 0 u c → aRw I (vPoss I) (vGn I) (cMp c) (vTw I) = 0 → ∀ I' L', wFr I L I' L' → I' 160 4 = 0 → I' 160 5 = -1 → K (-1) I' L' P)
    (kw : ∀ T n, tX I T n → ∀ e u c, aRd T n (nmB I L) = rO e u c → cQ (vNp I) 0 0 u c → ¬ aRw I (vPoss I) (vGn I) (cMp c) (vTw I) = 0 → ∀ I1 L', wFr I L I1 L' → I1 160 4 = 0 → I1 160 5 = -1 → ∀ I', tSt I1 I' (fun w => vPoss I1 w ∧ ¬ aRw I (vPoss I) (vGn I) (cMp c) w = 0) (vGn I1) → zFr [180] [46] I1 I' → K (nI (cP (fun w => vPoss I w ∧ aRw I (vPoss I) (vGn I) (cMp c) w = 0) (vN I))) I' L' P) : zMi zm_X12_say d [.ref 160] I L P K := by
  obtain ⟨d, rfl⟩ : ∃ e, d = e + 1 := ⟨d - 1, by omega⟩
  refine g_X12_say hP (rd_work hP hS hb hT (by omega) (fun T n hx q h1 h2 I' L' h3 h4 h5 => qi (k0 T n hx q h1 h2 I' L' h3 h4 h5)) (fun T n hx e u c h1 h2 I1 L' h3 h4 h5 h6 => ?_))
  obtain ⟨hS', -⟩ := wFr_MSc hS hb h3
  obtain ⟨tb, ts⟩ := MSc_t hS'
  have eN := vN_fr h3.1 (by decide) (by decide)
  have eT := vTw_fr h3.1 (by decide) (by decide)
  refine t_strike hP tb ts (by omega) (r := aRw I (vPoss I) (vGn I) (cMp c)) (fun w hw => h6 w (by omega)) (fun z => ?_) (fun z I' b1 b2 _ => ?_)
  · rw [eT] at z
    exact qi (k1 T n hx e u c h1 h2 z I1 L' h3 h4 h5)
  · rw [eT] at z
    rw [eN, vPoss_fr h3.1 (by decide)]
    exact qi (kw T n hx e u c h1 h2 z I1 L' h3 h4 h5 I' b1 b2)
abbrev gw_X12_holds (d : Nat) (Q : zQt) (pc : Nat) (lv : zV) (st : List Value) (I : zI) (L : zL) (P : zP) : Prop := zW zm_X12_holds (zRm d 0 0) 0 0 Q pc lv st I L P 205 0 0
abbrev v_X12_holds_24 (d : Nat) (Q : zQt) (x1 : Int32) (x2 : Int32) (I : zI) (L : zL) (P : zP) : Prop :=
  MB I ∧
  (((nI (vN I)) ≤ x2 →
    Q (some (.int x1)) I L P 205
  ) ∧ (¬ (nI (vN I)) ≤ x2 →
    vp_in x2 256 ∧
    (((I 180 x2.toNatClampNeg) = 0 →
      gw_X12_holds (d + 1) Q 24 [some (.ref 160), some (.int (x1 + 0)), some (.int (x2 + 1))] [] I L P
    ) ∧ (¬ (I 180 x2.toNatClampNeg) = 0 →
      vp_in x2 12288 ∧
      (((I 183 x2.toNatClampNeg) = 0 →
        gw_X12_holds (d + 1) Q 24 [some (.ref 160), some (.int (x1 + 0)), some (.int (x2 + 1))] [] I L P
      ) ∧ (¬ (I 183 x2.toNatClampNeg) = 0 →
        gw_X12_holds (d + 1) Q 24 [some (.ref 160), some (.int (x1 + 1)), some (.int (x2 + 1))] [] I L P
      ))
    ))
  ))
set_option maxRecDepth 20000 in
theorem g_X12_holds_24 {d : Nat} {Q : zQt} {x1 : Int32} {x2 : Int32} {I : zI} {L : zL} {P : zP} (hP : zPk P) (hd : 1 ≤ d) (hv : v_X12_holds_24 d Q x1 x2 I L P) : gw_X12_holds (d + 1) Q 24 [some (.ref 160), some (.int x1), some (.int x2)] [] I L P := by
  unfold v_X12_holds_24 at hv
  refine z_iload_n dX12_holds_24 rfl ?_
  refine z_aload_n dX12_holds_25 rfl ?_
  obtain ⟨h12, hv⟩ := hv
  refine z_callV (As := []) (st := [.int x2]) dX12_holds_26 zl_X12_346 zv_X12_worldMany (by decide) rfl zn_160 zo_160 rfl rfl (Nat.le_of_ble_eq_true rfl) ⟨Nat.le_refl _, Nat.le_refl _⟩ ⟨Nat.le_refl _, Nat.le_refl _⟩ (sp_X12_worldMany hP h12 (by omega) (K := fun r I' L' P' => nI (vN I) = r ∧ I = I' ∧ L = L' ∧ P = P') ⟨rfl, rfl, rfl, rfl⟩) (fun v1 I2 L2 P2 nx1 q14 => ?_)
  obtain ⟨rfl, r13, rfl, rfl, rfl, rfl, rfl⟩ := q14
  refine z_icmp_ge (tgt := 64) dX12_holds_29 (by decide) (fun q15 => ?_) (fun q15 => ?_)
  · have hv := hv.1 q15
    refine z_iload_n dX12_holds_64 rfl ?_
    exact z_ireturn dX12_holds_65 rfl rfl (Nat.le_refl _) (Nat.le_refl _) hv
  · have hv := hv.2 q15
    refine z_iload_n dX12_holds_32 rfl ?_
    refine z_aload_n dX12_holds_33 rfl ?_
    refine z_getP dX12_holds_34 zf_X12_74 zn_160 zo_160 (fun _ _ _ _ _ => rfl) (hP 160 35 180 zp_160_35) ?_
    refine z_iload_n dX12_holds_37 rfl ?_
    obtain ⟨h16, hv⟩ := hv
    refine z_zaload dX12_holds_38 zn_180 zh_180 h16 ?_
    refine z_if_eq (tgt := 55) dX12_holds_39 (by decide) (fun q17 => ?_) (fun q17 => ?_)
    · have hv := hv.1 q17
      refine z_iconst (v := 0) dX12_holds_55 (by decide) ?_
      refine z_iadd dX12_holds_56 ?_
      refine z_istore_n (lv2 := [some (.ref 160), some (.int (x1 + 0)), some (.int x2)]) dX12_holds_57 (by decide) rfl rfl ?_
      refine z_iinc (v2 := x2 + 1) (lv2 := [some (.ref 160), some (.int (x1 + 0)), some (.int (x2 + 1))]) dX12_holds_58 rfl (by rfl) (by decide) rfl rfl ?_
      refine z_goto (tgt := 24) dX12_holds_61 (by decide) ?_
      exact hv
    · have hv := hv.2 q17
      refine z_aload_n dX12_holds_42 rfl ?_
      refine z_getP dX12_holds_43 zf_X12_83 zn_160 zo_160 (fun _ _ _ _ _ => rfl) (hP 160 41 183 zp_160_41) ?_
      refine z_iload_n dX12_holds_46 rfl ?_
      obtain ⟨h18, hv⟩ := hv
      refine z_iaload dX12_holds_47 zn_183 zh_183 h18 ?_
      refine z_if_eq (tgt := 55) dX12_holds_48 (by decide) (fun q19 => ?_) (fun q19 => ?_)
      · have hv := hv.1 q19
        refine z_iconst (v := 0) dX12_holds_55 (by decide) ?_
        refine z_iadd dX12_holds_56 ?_
        refine z_istore_n (lv2 := [some (.ref 160), some (.int (x1 + 0)), some (.int x2)]) dX12_holds_57 (by decide) rfl rfl ?_
        refine z_iinc (v2 := x2 + 1) (lv2 := [some (.ref 160), some (.int (x1 + 0)), some (.int (x2 + 1))]) dX12_holds_58 rfl (by rfl) (by decide) rfl rfl ?_
        refine z_goto (tgt := 24) dX12_holds_61 (by decide) ?_
        exact hv
      · have hv := hv.2 q19
        refine z_iconst (v := 1) dX12_holds_51 (by decide) ?_
        refine z_goto (tgt := 56) dX12_holds_52 (by decide) ?_
        refine z_iadd dX12_holds_56 ?_
        refine z_istore_n (lv2 := [some (.ref 160), some (.int (x1 + 1)), some (.int x2)]) dX12_holds_57 (by decide) rfl rfl ?_
        refine z_iinc (v2 := x2 + 1) (lv2 := [some (.ref 160), some (.int (x1 + 1)), some (.int (x2 + 1))]) dX12_holds_58 rfl (by rfl) (by decide) rfl rfl ?_
        refine z_goto (tgt := 24) dX12_holds_61 (by decide) ?_
        exact hv
abbrev v_X12_holds (d : Nat) (Q : zQt)  (I : zI) (L : zL) (P : zP) : Prop :=
  zMi zm_X12_readAlone d [.ref 160] I L P (fun r5 I1 L2 P3 =>
    ((¬ r5 = 0 →
      zMv zm_X12_work d [.ref 160, .int 1400, .int (I1 160 32)] I1 L2 P3 (fun I7 L8 P9 =>
        gw_X12_holds (d + 1) Q 24 [some (.ref 160), some (.int 0), some (.int 0)] [] I7 L8 P9
      )
    ) ∧ (r5 = 0 →
      Q (some (.int (-1))) I1 L2 P3 205
    ))
  )
set_option maxRecDepth 20000 in
theorem g_X12_holds {d : Nat} {Q : zQt}  {I : zI} {L : zL} {P : zP} (hP : zPk P) (hd : 1 ≤ d) (hv : v_X12_holds d Q  I L P) : zM zm_X12_holds (d + 1) 0 0 [.ref 160] I L P 205 Q := by
  unfold v_X12_holds at hv
  refine zM_of (lv0 := [some (.ref 160), none, none]) (by decide +kernel) (Nat.le_of_ble_eq_true rfl) rfl ?_
  refine z_aload_n dX12_holds_0 rfl ?_
  refine z_callV (As := []) (st := []) dX12_holds_1 zl_X12_403 zv_X12_readAlone (by decide) rfl zn_160 zo_160 rfl rfl (Nat.le_of_ble_eq_true rfl) ⟨Nat.le_refl _, Nat.le_refl _⟩ ⟨Nat.le_refl _, Nat.le_refl _⟩ hv (fun v1 I1 L2 P3 nx1 q4 => ?_)
  obtain ⟨rfl, r5, rfl, hv⟩ := q4
  refine z_if_ne (tgt := 9) dX12_holds_4 (by decide) (fun q6 => ?_) (fun q6 => ?_)
  · have hv := hv.1 q6
    refine z_aload_n dX12_holds_9 rfl ?_
    refine z_sipush (v := 1400) dX12_holds_10 (by decide) ?_
    refine z_aload_n dX12_holds_13 rfl ?_
    refine z_getI dX12_holds_14 zf_X12_246 zn_160 zo_160 (fun _ _ _ _ _ => rfl) ?_
    refine z_callV (As := [.int 1400, .int (I1 160 32)]) (st := []) dX12_holds_17 zl_X12_407 zv_X12_work (by decide) rfl zn_160 zo_160 rfl rfl (Nat.le_of_ble_eq_true rfl) ⟨Nat.le_refl _, Nat.le_refl _⟩ ⟨Nat.le_refl _, Nat.le_refl _⟩ hv (fun v1 I7 L8 P9 nx1 q10 => ?_)
    obtain ⟨rfl, rfl, hv⟩ := q10
    refine z_iconst (v := 0) dX12_holds_20 (by decide) ?_
    refine z_istore_n (lv2 := [some (.ref 160), some (.int 0), none]) dX12_holds_21 (by decide) rfl rfl ?_
    refine z_iconst (v := 0) dX12_holds_22 (by decide) ?_
    refine z_istore_n (lv2 := [some (.ref 160), some (.int 0), some (.int 0)]) dX12_holds_23 (by decide) rfl rfl ?_
    exact hv
  · have hv := hv.2 q6
    refine z_iconst (v := (-1)) dX12_holds_7 (by decide) ?_
    exact z_ireturn dX12_holds_8 rfl rfl (Nat.le_refl _) (Nat.le_refl _) hv
theorem lp_X12_holds {d : Nat} {Q : zQt} {I : zI} {L : zL} {P : zP} (hP : zPk P) (hB : MB I) (hd : 1 ≤ d) (kk : Q (some (.int (nI (cP (fun w => vPoss I w ∧ ¬ I 183 w = 0) (vN I))))) I L P 205) :
    ∀ m i, i + m = vN I → gw_X12_holds (d + 1) Q 24 [some (.ref 160), some (.int (nI (cP (fun w => vPoss I w ∧ ¬ I 183 w = 0) i))), some (.int (nI i))] [] I L P := by
  have hN := vN_le hB
  intro m
  induction m with
  | zero =>
    intro i hi
    have : i = vN I := by omega
    subst this
    exact g_X12_holds_24 hP (by omega) ⟨hB, fun _ => kk, fun q => absurd (nI_le (Nat.le_refl _) (by omega)) q⟩
  | succ m ih =>
    intro i hi
    have no : ¬ (vPoss I i ∧ ¬ I 183 i = 0) → gw_X12_holds (d + 1) Q 24 [some (.ref 160), some (.int (nI (cP (fun w => vPoss I w ∧ ¬ I 183 w = 0) i) + 0)), some (.int (nI i + 1))] [] I L P := by
      intro h
      rw [nI_1, show (nI (cP (fun w => vPoss I w ∧ ¬ I 183 w = 0) i) + 0 : Int32) = nI (cP (fun w => vPoss I w ∧ ¬ I 183 w = 0) i) by rw [show (0 : Int32) = nI 0 from rfl, nI_add]; rfl, ← cP_f (f := fun w => vPoss I w ∧ ¬ I 183 w = 0) h]
      exact ih (i + 1) (by omega)
    refine g_X12_holds_24 hP (by omega) ⟨hB, fun q => absurd q (nI_ge (by omega) (by omega)), fun _ => ⟨nx_in (by omega) (by decide), fun q => no ?_, fun q => ⟨nx_in (by omega) (by decide), fun q2 => no ?_, fun q2 => ?_⟩⟩⟩
    · rw [nI_cl (by omega)] at q; exact fun z => z.1 q
    · rw [nI_cl (by omega)] at q2; exact fun z => z.2 q2
    · rw [nI_cl (by omega)] at q q2
      rw [nI_1, nI_1, ← cP_t (f := fun w => vPoss I w ∧ ¬ I 183 w = 0) ⟨q, q2⟩]
      exact ih (i + 1) (by omega)
theorem sp_X12_holds {d : Nat} {I : zI} {L : zL} {P : zP} (hP : zPk P) (hS : MSc I) (hb : MCb I) (hT : MTp I) (hd : 8 ≤ d) {K : Int32 → zI → zL → zP → Prop}
    (k0 : ∀ T n, tX I T n → ∀ q, aRd T n (nmB I L) = .inl q → (q.1 ≠ 0 ∧ q.1 < 100) → ∀ I' L', wFr I L I' L' → I' 160 4 = nI q.1 → I' 160 5 = nI q.2 → K (-1) I' L' P)
    (kw : ∀ T n, tX I T n → ∀ e u c, aRd T n (nmB I L) = rO e u c → cQ (vNp I) 0 0 u c → ∀ I' L', wFr I L I' L' → I' 160 4 = 0 → I' 160 5 = -1 → K (nI (cP (fun w => vPoss I w ∧ ¬ aRw I (vPoss I) (vGn I) (cMp c) w = 0) (vN I))) I' L' P) : zMi zm_X12_holds d [.ref 160] I L P K := by
  obtain ⟨d, rfl⟩ : ∃ e, d = e + 1 := ⟨d - 1, by omega⟩
  refine g_X12_holds (d := d) hP (by omega) ?_
  refine rd_work hP hS hb hT (by omega) (fun T n hx q h1 h2 I' L' h3 h4 h5 => qi (k0 T n hx q h1 h2 I' L' h3 h4 h5)) (fun T n hx e u c h1 h2 I' L' h3 h4 h5 h6 => ?_)
  obtain ⟨hS', -⟩ := wFr_MSc hS hb h3
  have eN := vN_fr h3.1 (by decide) (by decide)
  refine lp_X12_holds hP hS'.1.1 (by omega) ?_ (vN I') 0 (by omega)
  have ecp : cP (fun w => vPoss I' w ∧ ¬ I' 183 w = 0) (vN I') = cP (fun w => vPoss I w ∧ ¬ aRw I (vPoss I) (vGn I) (cMp c) w = 0) (vN I) := by
    rw [eN]
    exact cP_c (fun w hw => by rw [vPoss_fr h3.1 (by decide), h6 w hw])
  rw [ecp]
  exact qi (kw T n hx e u c h1 h2 I' L' h3 h4 h5)
/-- how deep it is known; from the row r on -/
noncomputable def aDp (I : zI) : Nat → Nat → (Nat → Int32) → Int32
  | 0, x, _ => nI x
  | f + 1, x, r => @ite _ (r (vTw I) = 0) (Classical.propDecidable _) (nI x) (aDp I f (x + 1) (fun w => bP (vPoss I w ∧ sAl (vNp I) (vN I) (vPoss I) (vLike I) r w)))
theorem aDp_c {I : zI} (ht : vTw I < vN I) : ∀ f x r r', (∀ w, w < vN I → r w = r' w) → aDp I f x r = aDp I f x r'
  | 0, _, _, _, _ => rfl
  | f + 1, x, r, r', h => by
    unfold aDp
    rw [h _ ht, aDp_c ht f (x + 1) _ _ (fun w hw => bP_c (and_congr_right (fun _ => sAl_c (fun v hv _ => by rw [h v hv]))))]
abbrev gw_X12_deep (d : Nat) (Q : zQt) (pc : Nat) (lv : zV) (st : List Value) (I : zI) (L : zL) (P : zP) : Prop := zW zm_X12_deep (zRm d 0 0) 0 0 Q pc lv st I L P 205 0 0
abbrev v_X12_deep_56 (d : Nat) (Q : zQt) (x1 : Int32) (x2 : Int32) (I : zI) (L : zL) (P : zP) : Prop :=
  vp_in x1 12288 ∧
  (((I 183 x1.toNatClampNeg) = 0 →
    Q (some (.int x2)) I L P 205
  ) ∧ (¬ (I 183 x1.toNatClampNeg) = 0 →
    ((98 ≤ x2 →
      Q (some (.int x2)) I L P 205
    ) ∧ (¬ 98 ≤ x2 →
      zMv zm_X12_allKnow d [.ref 160, .int 0] I L P (fun I33 L34 P35 =>
        gw_X12_deep (d + 1) Q 56 [some (.ref 160), some (.int x1), some (.int (x2 + 1))] [] I33 L34 P35
      )
    ))
  ))
set_option maxRecDepth 20000 in
theorem g_X12_deep_56 {d : Nat} {Q : zQt} {x1 : Int32} {x2 : Int32} {I : zI} {L : zL} {P : zP} (hP : zPk P) (hv : v_X12_deep_56 d Q x1 x2 I L P) : gw_X12_deep (d + 1) Q 56 [some (.ref 160), some (.int x1), some (.int x2)] [] I L P := by
  unfold v_X12_deep_56 at hv
  refine z_aload_n dX12_deep_56 rfl ?_
  refine z_getP dX12_deep_57 zf_X12_83 zn_160 zo_160 (fun _ _ _ _ _ => rfl) (hP 160 41 183 zp_160_41) ?_
  refine z_iload_n dX12_deep_60 rfl ?_
  obtain ⟨h30, hv⟩ := hv
  refine z_iaload dX12_deep_61 zn_183 zh_183 h30 ?_
  refine z_if_eq (tgt := 82) dX12_deep_62 (by decide) (fun q31 => ?_) (fun q31 => ?_)
  · have hv := hv.1 q31
    refine z_iload_n dX12_deep_82 rfl ?_
    exact z_ireturn dX12_deep_83 rfl rfl (Nat.le_refl _) (Nat.le_refl _) hv
  · have hv := hv.2 q31
    refine z_iload_n dX12_deep_65 rfl ?_
    refine z_bipush (v := 98) dX12_deep_66 (by decide) ?_
    refine z_icmp_ge (tgt := 82) dX12_deep_68 (by decide) (fun q32 => ?_) (fun q32 => ?_)
    · have hv := hv.1 q32
      refine z_iload_n dX12_deep_82 rfl ?_
      exact z_ireturn dX12_deep_83 rfl rfl (Nat.le_refl _) (Nat.le_refl _) hv
    · have hv := hv.2 q32
      refine z_iinc (v2 := x2 + 1) (lv2 := [some (.ref 160), some (.int x1), some (.int (x2 + 1))]) dX12_deep_71 rfl (by rfl) (by decide) rfl rfl ?_
      refine z_aload_n dX12_deep_74 rfl ?_
      refine z_iconst (v := 0) dX12_deep_75 (by decide) ?_
      refine z_callV (As := [.int 0]) (st := []) dX12_deep_76 zl_X12_394 zv_X12_allKnow (by decide) rfl zn_160 zo_160 rfl rfl (Nat.le_of_ble_eq_true rfl) ⟨Nat.le_refl _, Nat.le_refl _⟩ ⟨Nat.le_refl _, Nat.le_refl _⟩ hv (fun v1 I33 L34 P35 nx1 q36 => ?_)
      obtain ⟨rfl, rfl, hv⟩ := q36
      refine z_goto (tgt := 56) dX12_deep_79 (by decide) ?_
      exact hv
abbrev v_X12_deep (d : Nat) (Q : zQt)  (I : zI) (L : zL) (P : zP) : Prop :=
  zMi zm_X12_readAlone d [.ref 160] I L P (fun r5 I1 L2 P3 =>
    ((¬ r5 = 0 →
      zMv zm_X12_work d [.ref 160, .int 1400, .int (I1 160 32)] I1 L2 P3 (fun I7 L8 P9 =>
        zPk P9 ∧
        MB I7 ∧
        MT I7 ∧
        vp_in (nI (vTw I7)) 12288 ∧
        ((¬ (I7 183 (nI (vTw I7)).toNatClampNeg) = 0 →
          zMi zm_X12_isCommon d [.ref 160, .int (nI (vTw I7))] I7 L8 P9 (fun r23 I19 L20 P21 =>
            ((r23 = 0 →
              zMv zm_X12_allKnow d [.ref 160, .int 0] I19 L20 P21 (fun I25 L26 P27 =>
                gw_X12_deep (d + 1) Q 56 [some (.ref 160), some (.int (nI (vTw I7))), some (.int 0)] [] I25 L26 P27
              )
            ) ∧ (¬ r23 = 0 →
              Q (some (.int 99)) I19 L20 P21 205
            ))
          )
        ) ∧ ((I7 183 (nI (vTw I7)).toNatClampNeg) = 0 →
          Q (some (.int (-1))) I7 L8 P9 205
        ))
      )
    ) ∧ (r5 = 0 →
      Q (some (.int (-1000000))) I1 L2 P3 205
    ))
  )
set_option maxRecDepth 20000 in
theorem g_X12_deep {d : Nat} {Q : zQt}  {I : zI} {L : zL} {P : zP} (hP : zPk P) (hv : v_X12_deep d Q  I L P) : zM zm_X12_deep (d + 1) 0 0 [.ref 160] I L P 205 Q := by
  unfold v_X12_deep at hv
  refine zM_of (lv0 := [some (.ref 160), none, none]) (by decide +kernel) (Nat.le_of_ble_eq_true rfl) rfl ?_
  refine z_aload_n dX12_deep_0 rfl ?_
  refine z_callV (As := []) (st := []) dX12_deep_1 zl_X12_403 zv_X12_readAlone (by decide) rfl zn_160 zo_160 rfl rfl (Nat.le_of_ble_eq_true rfl) ⟨Nat.le_refl _, Nat.le_refl _⟩ ⟨Nat.le_refl _, Nat.le_refl _⟩ hv (fun v1 I1 L2 P3 nx1 q4 => ?_)
  obtain ⟨rfl, r5, rfl, hv⟩ := q4
  refine z_if_ne (tgt := 11) dX12_deep_4 (by decide) (fun q6 => ?_) (fun q6 => ?_)
  · have hv := hv.1 q6
    refine z_aload_n dX12_deep_11 rfl ?_
    refine z_sipush (v := 1400) dX12_deep_12 (by decide) ?_
    refine z_aload_n dX12_deep_15 rfl ?_
    refine z_getI dX12_deep_16 zf_X12_246 zn_160 zo_160 (fun _ _ _ _ _ => rfl) ?_
    refine z_callV (As := [.int 1400, .int (I1 160 32)]) (st := []) dX12_deep_19 zl_X12_407 zv_X12_work (by decide) rfl zn_160 zo_160 rfl rfl (Nat.le_of_ble_eq_true rfl) ⟨Nat.le_refl _, Nat.le_refl _⟩ ⟨Nat.le_refl _, Nat.le_refl _⟩ hv (fun v1 I7 L8 P9 nx1 q10 => ?_)
    obtain ⟨rfl, rfl, hv⟩ := q10
    refine z_aload_n dX12_deep_22 rfl ?_
    obtain ⟨h12, hv⟩ := hv
    obtain ⟨h13, hv⟩ := hv
    obtain ⟨h14, hv⟩ := hv
    refine z_callV (As := []) (st := []) dX12_deep_23 zl_X12_410 zv_X12_theTrue (by decide) rfl zn_160 zo_160 rfl rfl (Nat.le_of_ble_eq_true rfl) ⟨Nat.le_refl _, Nat.le_refl _⟩ ⟨Nat.le_refl _, Nat.le_refl _⟩ (sp_X12_theTrue h12 h13 h14 (K := fun r I' L' P' => nI (vTw I7) = r ∧ I7 = I' ∧ L8 = L' ∧ P9 = P') ⟨rfl, rfl, rfl, rfl⟩) (fun v1 I2 L2 P2 nx1 q16 => ?_)
    obtain ⟨rfl, r15, rfl, rfl, rfl, rfl, rfl⟩ := q16
    refine z_istore_n (lv2 := [some (.ref 160), some (.int (nI (vTw I7))), none]) dX12_deep_26 (by decide) rfl rfl ?_
    refine z_aload_n dX12_deep_27 rfl ?_
    refine z_getP dX12_deep_28 zf_X12_83 zn_160 zo_160 (fun _ _ _ _ _ => rfl) (h12 160 41 183 zp_160_41) ?_
    refine z_iload_n dX12_deep_31 rfl ?_
    obtain ⟨h17, hv⟩ := hv
    refine z_iaload dX12_deep_32 zn_183 zh_183 h17 ?_
    refine z_if_ne (tgt := 38) dX12_deep_33 (by decide) (fun q18 => ?_) (fun q18 => ?_)
    · have hv := hv.1 q18
      refine z_aload_n dX12_deep_38 rfl ?_
      refine z_iload_n dX12_deep_39 rfl ?_
      refine z_callV (As := [.int (nI (vTw I7))]) (st := []) dX12_deep_40 zl_X12_413 zv_X12_isCommon (by decide) rfl zn_160 zo_160 rfl rfl (Nat.le_of_ble_eq_true rfl) ⟨Nat.le_refl _, Nat.le_refl _⟩ ⟨Nat.le_refl _, Nat.le_refl _⟩ hv (fun v1 I19 L20 P21 nx1 q22 => ?_)
      obtain ⟨rfl, r23, rfl, hv⟩ := q22
      refine z_if_eq (tgt := 49) dX12_deep_43 (by decide) (fun q24 => ?_) (fun q24 => ?_)
      · have hv := hv.1 q24
        refine z_iconst (v := 0) dX12_deep_49 (by decide) ?_
        refine z_istore_n (lv2 := [some (.ref 160), some (.int (nI (vTw I7))), some (.int 0)]) dX12_deep_50 (by decide) rfl rfl ?_
        refine z_aload_n dX12_deep_51 rfl ?_
        refine z_iconst (v := 0) dX12_deep_52 (by decide) ?_
        refine z_callV (As := [.int 0]) (st := []) dX12_deep_53 zl_X12_394 zv_X12_allKnow (by decide) rfl zn_160 zo_160 rfl rfl (Nat.le_of_ble_eq_true rfl) ⟨Nat.le_refl _, Nat.le_refl _⟩ ⟨Nat.le_refl _, Nat.le_refl _⟩ hv (fun v1 I25 L26 P27 nx1 q28 => ?_)
        obtain ⟨rfl, rfl, hv⟩ := q28
        exact hv
      · have hv := hv.2 q24
        refine z_bipush (v := 99) dX12_deep_46 (by decide) ?_
        exact z_ireturn dX12_deep_48 rfl rfl (Nat.le_refl _) (Nat.le_refl _) hv
    · have hv := hv.2 q18
      refine z_iconst (v := (-1)) dX12_deep_36 (by decide) ?_
      exact z_ireturn dX12_deep_37 rfl rfl (Nat.le_refl _) (Nat.le_refl _) hv
  · have hv := hv.2 q6
    refine z_ldc_w (v := (-1000000)) dX12_deep_7 zi_X12_406 ?_
    exact z_ireturn dX12_deep_10 rfl rfl (Nat.le_refl _) (Nat.le_refl _) hv
theorem lp_X12_deep {d : Nat} {Q : zQt} {I0 : zI} {L : zL} {P : zP} (hP : zPk P) (hS : MSc I0) (hd : 5 ≤ d) {res : Int32} (kk : ∀ I, zFr [183, 185] [] I0 I → Q (some (.int res)) I L P 205) :
    ∀ f x I r, f + x = 98 → zFr [183, 185] [] I0 I → (∀ w, w < vN I0 → I 183 w = r w) → aDp I0 f x r = res → gw_X12_deep (d + 1) Q 56 [some (.ref 160), some (.int (nI (vTw I0))), some (.int (nI x))] [] I L P := by
  have ht := hS.2.1.1
  have hN := vN_le hS.1.1
  intro f
  induction f with
  | zero =>
    intro x I r hx hf hr he
    have he : nI x = res := he
    have hx : x = 98 := by omega
    have k := kk I hf
    rw [← he] at k
    refine g_X12_deep_56 hP ⟨nx_in (by omega) (by decide), fun _ => k, fun _ => ⟨fun _ => k, fun q => absurd (by rw [hx]; decide) q⟩⟩
  | succ f ih =>
    intro x I r hx hf hr he
    have k := kk I hf
    unfold aDp at he
    refine g_X12_deep_56 hP ⟨nx_in (by omega) (by decide), fun q => ?_, fun q => ⟨fun q2 => absurd q2 ?_, fun _ => ?_⟩⟩
    · rw [nI_cl (by omega), hr _ ht] at q
      rw [if_pos q] at he
      rw [← he] at k
      exact k
    · rw [show (98 : Int32) = nI 98 from rfl, nI_leI (by decide) (by omega)]; omega
    · rw [nI_cl (by omega), hr _ ht] at q
      rw [if_neg q] at he
      have hE := ME_fr hf (by decide) (by decide) (by decide) (by decide) (by decide) hS.1
      have eN := vN_fr hf (by decide) (by decide)
      refine sp_X12_allKnow (row := 0) hP hE (fun w hw => by rw [hf.1 180 (by decide) (by decide)]; exact hS.2.2.2.2.1.1 w (by omega)) (by decide) hd (fun I' a1 _ a3 => ?_)
      rw [nI_1]
      refine ih (x + 1) I' _ (by omega) (zFr_tr hf a1) (fun w hw => ?_) he
      have := a3 w (by omega)
      rw [Nat.zero_add] at this
      rw [this, eN, vNp_fr hf (by decide) (by decide), vPoss_fr hf (by decide), vLike_fr' hf (by decide) (by decide) (by decide) (by decide) (by decide) (by decide)]
      refine bP_c (and_congr_right (fun _ => sAl_c (fun v hv _ => ?_)))
      unfold vRow
      rw [Nat.zero_add, hr v hv]
/-- what deep answers of a row -/
noncomputable def aDe (I : zI) (r : Nat → Int32) : Int32 :=
  @ite _ (r (vTw I) = 0) (Classical.propDecidable _) (-1) (@ite _ (sCm (vNp I) (vN I) (vPoss I) (vLike I) r (vTw I)) (Classical.propDecidable _) 99 (aDp I 98 0 (fun w => bP (vPoss I w ∧ sAl (vNp I) (vN I) (vPoss I) (vLike I) r w))))
theorem sp_X12_deep {d : Nat} {I : zI} {L : zL} {P : zP} (hP : zPk P) (hS : MSc I) (hb : MCb I) (hT : MTp I) (hd : 8 ≤ d) {K : Int32 → zI → zL → zP → Prop}
    (k0 : ∀ T n, tX I T n → ∀ q, aRd T n (nmB I L) = .inl q → (q.1 ≠ 0 ∧ q.1 < 100) → ∀ I' L', wFr I L I' L' → I' 160 4 = nI q.1 → I' 160 5 = nI q.2 → K (-1000000) I' L' P)
    (kw : ∀ T n, tX I T n → ∀ e u c, aRd T n (nmB I L) = rO e u c → cQ (vNp I) 0 0 u c → ∀ I' L', wFr I L I' L' → I' 160 4 = 0 → I' 160 5 = -1 → K (aDe I (aRw I (vPoss I) (vGn I) (cMp c))) I' L' P) : zMi zm_X12_deep d [.ref 160] I L P K := by
  obtain ⟨d, rfl⟩ : ∃ e, d = e + 1 := ⟨d - 1, by omega⟩
  have ht := hS.2.1.1
  have hN := vN_le hS.1.1
  refine g_X12_deep hP (rd_work hP hS hb hT (by omega) (fun T n hx q h1 h2 I' L' h3 h4 h5 => qi (k0 T n hx q h1 h2 I' L' h3 h4 h5)) (fun T n hx e u c h1 h2 I1 L' h3 h4 h5 h6 => ?_))
  have kw := kw T n hx e u c h1 h2
  obtain ⟨hS', -⟩ := wFr_MSc hS hb h3
  have f := h3.1
  have eT := vTw_fr f (by decide) (by decide)
  have eN := vN_fr f (by decide) (by decide)
  have eP := vNp_fr f (by decide) (by decide)
  have eO := vPoss_fr f (by decide)
  have eL := vLike_fr' f (by decide) (by decide) (by decide) (by decide) (by decide) (by decide)
  unfold aDe at kw
  refine ⟨hP, hS'.1.1, hS'.2.1, by rw [eT]; exact nx_in (by omega) (by decide), ?_⟩
  rw [eT, nI_cl (by omega), h6 _ ht]
  refine ⟨fun q => ?_, fun q => ?_⟩
  · rw [if_neg q] at kw
    refine sp_X12_isCommon hP hS'.1 hS'.2.2.2.2.2.1 (by omega) (by rw [← eT]; exact hS'.2.2.2.2.2.2) (by omega) (fun I2 a1 a2 => ?_)
    have ec : sCm (vNp I1) (vN I1) (vPoss I1) (vLike I1) (vRow I1 0) (vTw I) ↔ sCm (vNp I) (vN I) (vPoss I) (vLike I) (aRw I (vPoss I) (vGn I) (cMp c)) (vTw I) := by
      rw [eP, eN, eO, eL]
      refine sCm_c (fun v hv _ => ?_)
      unfold vRow
      rw [Nat.zero_add, h6 v hv]
    rw [bP_c ec]
    have w2 : ∀ I3, zFr [183, 185] [] I2 I3 → wFr I L I3 L' := by
      intro I3 b
      refine ⟨zFr_tr f (zFr_tr (zFr_wk a1 (by decide) (by decide)) (zFr_wk b (by decide) (by simp))), h3.2.1, ?_, fun k hk => ?_, fun k hk => ?_, MP_fr b (by decide) (by decide) (by decide) (by decide) (by decide) (by decide) (by decide) (by decide) (by decide) a2⟩
      · rw [b.2 2 (by simp), a1.2 2 (by decide)]; exact h3.2.2.1
      · rw [b.1 166 (by decide) (by decide), a1.1 166 (by decide) (by decide)]; exact h3.2.2.2.1 k hk
      · rw [b.1 175 (by decide) (by decide), b.1 176 (by decide) (by decide), a1.1 175 (by decide) (by decide), a1.1 176 (by decide) (by decide)]; exact h3.2.2.2.2.1 k hk
    have ww2 := w2 I2 (zFr_rf _ _ _)
    have s4 : ∀ I3, zFr [183, 185] [] I2 I3 → I3 160 4 = 0 ∧ I3 160 5 = -1 := fun I3 b => ⟨by rw [b.2 4 (by simp), a1.2 4 (by decide)]; exact h4, by rw [b.2 5 (by simp), a1.2 5 (by decide)]; exact h5⟩
    refine ⟨fun q2 => ?_, fun q2 => ?_⟩
    · rw [if_neg (bP_0.mp q2)] at kw
      obtain ⟨hS2, -⟩ := wFr_MSc hS hb ww2
      have f2 := ww2.1
      have eN2 := vN_fr f2 (by decide) (by decide)
      have eP2 := vNp_fr f2 (by decide) (by decide)
      have eT2 := vTw_fr f2 (by decide) (by decide)
      have eO2 := vPoss_fr f2 (by decide)
      have eL2 := vLike_fr' f2 (by decide) (by decide) (by decide) (by decide) (by decide) (by decide)
      have r2 : ∀ w, w < vN I → I2 183 w = aRw I (vPoss I) (vGn I) (cMp c) w := fun w hw => by rw [a1.1 183 (by decide) (by decide)]; exact h6 w hw
      refine sp_X12_allKnow (row := 0) hP hS2.1 (fun w hw => hS2.2.2.2.2.1.1 w (by omega)) (by decide) (by omega) (fun I3 b1 _ b3 => ?_)
      have eD : ∀ f x r, aDp I2 f x r = aDp I f x r := by
        intro f
        induction f with
        | zero => intro x r; rfl
        | succ f ih => intro x r; unfold aDp; rw [eT2, eN2, eP2, eO2, eL2, ih]
      have key := lp_X12_deep (d := d) (Q := fun v I' L' P' nx' => nx' = 205 ∧ ∃ r', v = some (.int r') ∧ K r' I' L' P') (L := L') (I0 := I2) hP hS2 (by omega) (res := aDp I 98 0 (fun w => bP (vPoss I w ∧ sAl (vNp I) (vN I) (vPoss I) (vLike I) (aRw I (vPoss I) (vGn I) (cMp c)) w))) (fun I' b => qi (kw I' L' (w2 I' b) (s4 I' b).1 (s4 I' b).2)) 98 0 I3 (fun w => bP (vPoss I w ∧ sAl (vNp I) (vN I) (vPoss I) (vLike I) (aRw I (vPoss I) (vGn I) (cMp c)) w)) rfl b1 (fun w hw => ?_) (eD _ _ _)
      · rw [eT2] at key
        exact key
      · have := b3 w hw
        rw [Nat.zero_add] at this
        rw [this, eN2, eP2, eO2, eL2]
        refine bP_c (and_congr_right (fun _ => sAl_c (fun v hv _ => ?_)))
        unfold vRow
        rw [Nat.zero_add, r2 v hv]
    · rw [if_pos (bP_n.mp q2)] at kw
      exact qi (kw I2 L' ww2 (s4 I2 (zFr_rf _ _ _)).1 (s4 I2 (zFr_rf _ _ _)).2)
  · rw [if_pos q] at kw
    exact qi (kw I1 L' h3 h4 h5)
