/-! ===== class and model: a formula on the tape ===== -/
section QH
variable {d : Nat} {I I1 I2 : zI} {L L1 L2 : zL} {P : zP} {t st : Nat} {b : Nat → Nat} {cd : Nat → Cd}
theorem cQ_g {np u : Nat} {c : Cd} (h : cQ np 0 0 u c) : eGd np (cMp c) := by
  obtain ⟨h1, h2⟩ := h.2.1 0 (by decide)
  exact ⟨h1, h2⟩
theorem aRd_q {T : Nat → Int32} {n np e u : Nat} {nm : Int64 → Option Nat} {c : Cd} (hn : ∀ v k, nm v = some k → k < np) (h : aRd T n nm = rO e u c) : cQ np 0 0 u c := by
  obtain ⟨r1, -⟩ := fRd_e (T := T) (n := n) (nm := nm) (lim := 30) (e := 0) (u := 0) (Nat.zero_le _)
  unfold aRd at h
  cases hr : fRd T n nm 30 0 0 with
  | inl q => rw [hr] at h; cases h
  | inr x =>
    obtain ⟨e', u', c'⟩ := x
    rw [hr] at h r1
    have h : @ite _ (tK T n e' = 275) (Classical.propDecidable _) (rO e' u' c') (rF (mis T n e') (tA T n e')) = rO e u c := h
    by_cases z : tK T n e' = 275
    · rw [if_pos z] at h
      have h := Sum.inr.inj h
      have e1 : u' = u := congrArg (fun y => y.2.1) h
      have e2 : c' = c := congrArg (fun y => y.2.2) h
      subst e1
      subst e2
      have := ((desc_q (T := T) (n := n) (lim := 30) hn (2 * n + 3)).1 0 0 0 0 e' u' c' r1 (by decide) (by decide)).2
      exact this
    · rw [if_neg z] at h; cases h
/-- cells that the class uses while it weighs the tape -/
def wtC (a : Nat) : Prop := a = 1 ∨ a = 3 ∨ a = 4 ∨ (17 ≤ a ∧ a ≤ 71)
abbrev gw_X11_weighTape (d : Nat) (Q : zQt) (pc : Nat) (lv : zV) (st : List Value) (I : zI) (L : zL) (P : zP) : Prop := zW zm_X11_weighTape (zRm d 0 0) 0 0 Q pc lv st I L P 205 0 0
abbrev v_X11_weighTape (d : Nat) (Q : zQt)  (I : zI) (L : zL) (P : zP) : Prop :=
  ∃ b1 : Nat, P 0 2 = some b1 ∧
  zMi zm_X5_readFormula d [.ref 17, .ref b1, .ref 3] I L P (fun r7 I3 L4 P5 =>
    zPk P5 ∧
    ∀ I9 : zI, I9 = zuI I3 1 1 0 →
    ((r7 = 0 →
      (r7 = 0 ∨ r7 = 1) ∧
      Q (some (.int r7)) I9 L4 P5 205
    ) ∧ (¬ r7 = 0 →
      zMv zm_X4_weigh d [.ref 23, .ref 73, .ref 3, .int 0, .int (I9 3 1)] I9 L4 P5 (fun I13 L14 P15 =>
        (r7 = 0 ∨ r7 = 1) ∧
        Q (some (.int r7)) I13 L14 P15 205
      )
    ))
  )
set_option maxRecDepth 20000 in
theorem g_X11_weighTape {d : Nat} {Q : zQt}  {I : zI} {L : zL} {P : zP} (hP : zPk P) (hv : v_X11_weighTape d Q  I L P) : zM zm_X11_weighTape (d + 1) 0 0 [.ref 0] I L P 205 Q := by
  unfold v_X11_weighTape at hv
  refine zM_of (lv0 := [some (.ref 0), none]) (by decide +kernel) (Nat.le_of_ble_eq_true rfl) rfl ?_
  refine z_aload_n dX11_weighTape_0 rfl ?_
  refine z_getP dX11_weighTape_1 zf_X11_38 zn_0 zo_0 (fun _ _ _ _ _ => rfl) (hP 0 4 17 zp_0_4) ?_
  refine z_aload_n dX11_weighTape_4 rfl ?_
  obtain ⟨b1, h2, hv⟩ := hv
  refine z_getP dX11_weighTape_5 zf_X11_26 zn_0 zo_0 (fun _ _ _ _ _ => rfl) h2 ?_
  refine z_aload_n dX11_weighTape_8 rfl ?_
  refine z_getP dX11_weighTape_9 zf_X11_19 zn_0 zo_0 (fun _ _ _ _ _ => rfl) (hP 0 1 3 zp_0_1) ?_
  refine z_callV (As := [.ref b1, .ref 3]) (st := []) dX11_weighTape_12 zl_X11_244 zv_X5_readFormula (by decide) rfl zn_17 zo_17 rfl rfl (Nat.le_of_ble_eq_true rfl) ⟨Nat.le_refl _, Nat.le_refl _⟩ ⟨Nat.le_refl _, Nat.le_refl _⟩ hv (fun v1 I3 L4 P5 nx1 q6 => ?_)
  obtain ⟨rfl, r7, rfl, hv⟩ := q6
  refine z_istore_n (lv2 := [some (.ref 0), some (.int r7)]) dX11_weighTape_15 (by decide) rfl rfl ?_
  refine z_aload_n dX11_weighTape_16 rfl ?_
  obtain ⟨h8, hv⟩ := hv
  refine z_getP dX11_weighTape_17 zf_X11_10 zn_0 zo_0 (fun _ _ _ _ _ => rfl) (h8 0 0 1 zp_0_0) ?_
  refine z_iconst (v := 0) dX11_weighTape_20 (by decide) ?_
  refine z_putI dX11_weighTape_21 zf_X11_103 zn_1 zo_1 (Or.inl rfl) (fun _ _ _ _ _ => rfl) rfl rfl (z_nmI (fun I9 e10 => ?_))
  have hv := hv I9 e10
  refine z_iload_n dX11_weighTape_24 rfl ?_
  refine z_if_eq (tgt := 51) dX11_weighTape_25 (by decide) (fun q11 => ?_) (fun q11 => ?_)
  · have hv := hv.1 q11
    refine z_iload_n dX11_weighTape_51 rfl ?_
    obtain ⟨h12, hv⟩ := hv
    exact z_ireturn dX11_weighTape_52 rfl (zbn h12) (Nat.le_refl _) (Nat.le_refl _) hv
  · have hv := hv.2 q11
    refine z_aload_n dX11_weighTape_28 rfl ?_
    refine z_getP dX11_weighTape_29 zf_X11_45 zn_0 zo_0 (fun _ _ _ _ _ => rfl) (h8 0 5 23 zp_0_5) ?_
    refine z_aload_n dX11_weighTape_32 rfl ?_
    refine z_getP dX11_weighTape_33 zf_X11_57 zn_0 zo_0 (fun _ _ _ _ _ => rfl) (h8 0 6 73 zp_0_6) ?_
    refine z_aload_n dX11_weighTape_36 rfl ?_
    refine z_getP dX11_weighTape_37 zf_X11_19 zn_0 zo_0 (fun _ _ _ _ _ => rfl) (h8 0 1 3 zp_0_1) ?_
    refine z_iconst (v := 0) dX11_weighTape_40 (by decide) ?_
    refine z_aload_n dX11_weighTape_41 rfl ?_
    refine z_getP dX11_weighTape_42 zf_X11_19 zn_0 zo_0 (fun _ _ _ _ _ => rfl) (h8 0 1 3 zp_0_1) ?_
    refine z_getI dX11_weighTape_45 zf_X11_248 zn_3 zo_3 (fun _ _ _ _ _ => rfl) ?_
    refine z_callV (As := [.ref 73, .ref 3, .int 0, .int (I9 3 1)]) (st := []) dX11_weighTape_48 zl_X11_251 zv_X4_weigh (by decide) rfl zn_23 zo_23 rfl rfl (Nat.le_of_ble_eq_true rfl) ⟨Nat.le_refl _, Nat.le_refl _⟩ ⟨Nat.le_refl _, Nat.le_refl _⟩ hv (fun v1 I13 L14 P15 nx1 q16 => ?_)
    obtain ⟨rfl, rfl, hv⟩ := q16
    refine z_iload_n dX11_weighTape_51 rfl ?_
    obtain ⟨h18, hv⟩ := hv
    exact z_ireturn dX11_weighTape_52 rfl (zbn h18) (Nat.le_refl _) (Nat.le_refl _) hv
theorem sp_X11_weighTape (h : Rl I I L P t st b cd) (hd : 71 ≤ d) {K : Int32 → zI → zL → zP → Prop}
    (kF : ∀ q, aRd (vTt I) (vTp I) (nmB I L) = .inl q → ∀ I1 L1, zPk (pRd P t 3) → (∀ a, ¬ wtC a → I1 a = I a) → (∀ x, x ≠ 22 → L1 x = L x) → I1 1 1 = 0 → I1 17 0 = nI q.1 → I1 17 1 = nI q.2 → K 0 I1 L1 (pRd P t 3))
    (kO : ∀ e u c, aRd (vTt I) (vTp I) (nmB I L) = rO e u c → ∀ I1 L1, zPk (pRd P t 3) → (∀ a, ¬ wtC a → I1 a = I a) → (∀ x, x ≠ 22 → L1 x = L x) → I1 1 1 = 0 → I1 17 0 = 0 → I1 17 1 = -1 → (∀ w, w < vN I → vPoss I w → I1 25 w = aRw I (vPoss I) (vGn I) (cMp c) w) → K 1 I1 L1 (pRd P t 3)) : zMi zm_X11_weighTape d [.ref 0] I L P K := by
  obtain ⟨d, rfl⟩ : ∃ e, d = e + 1 := ⟨d - 1, by omega⟩
  have hP := h.1.1
  have hS := h.2.1.1
  obtain ⟨e0, h8, hi⟩ := Rl_t0 h
  have hil := hi
  unfold il at hil
  have hnm : cnm L t (vNp I) = nmB I L := by
    funext v
    unfold cnm nmB
    exact nfD_c (fun k h1 h2 => h.2.2.1.2.2 k (by omega))
  obtain ⟨g, hs, -⟩ := h.2.2.2.2.2.1
  refine g_X11_weighTape hP ⟨t, h.1.2.1, sp_X5_readFormula (T := vTt I) (n := vTp I) (np := vNp I) hP h.2.2.2.1 h.2.2.2.2.2.2.2.2.2.1 ⟨hi, h8, e0⟩ (by omega) (fun q hq I3 L3 hP3 f3 l3 a0 a1 => ⟨hP3, fun I9 e9 => ⟨fun _ => ⟨Or.inl rfl, qi (kF q (by rw [← hnm]; exact hq) I9 L3 hP3 ?_ l3 ?_ ?_ ?_)⟩, fun z => absurd rfl z⟩⟩) (fun e u c hq hu I3 L3 hP3 f3 l3 a0 a1 a2 a3 => ⟨hP3, fun I9 e9 => ⟨fun z => absurd z (by decide), fun _ => ?_⟩⟩)⟩
  · intro a ha
    unfold wtC at ha
    rw [e9, zuI_ne (by omega), f3 a (by simp only [List.mem_cons, List.not_mem_nil, or_false]; omega)]
  · rw [e9, zuI_v]
  · rw [e9, zuI_ne (by decide)]; exact a0
  · rw [e9, zuI_ne (by decide)]; exact a1
  · rw [hnm] at hq
    have hcq : cQ (vNp I) 0 0 u c := aRd_q (fun v k hv => by unfold nmB at hv; have := (nfD_lt hv).2; omega) hq
    have hlen := hcq.1.2
    have f9 : ∀ a, ¬ (a = 1 ∨ a = 3 ∨ a = 4 ∨ (17 ≤ a ∧ a ≤ 21)) → I9 a = I a := fun a ha => by rw [e9, zuI_ne (by omega), f3 a (by simp only [List.mem_cons, List.not_mem_nil, or_false]; omega)]
    have n9 : I9 3 1 = nI c.length := by rw [e9, zuI_ne (by decide)]; exact a2
    have hV9 : sV (pRd P t 3) 73 85 74 t I I9 (vPoss I) g (vGn I) := by
      obtain ⟨w1, w2, w3, w4⟩ := hs
      obtain ⟨x1, x2, x3, x4, x5, x6, x7⟩ := wH_fr w1 (fun a ha => f9 a (by omega))
      exact ⟨⟨x1, x2, x3, x4, by rw [pRd_o (by decide)]; exact x5, x6, x7⟩, w2, by rw [f9 73 (by decide)]; exact w3, w4⟩
    rw [n9]
    have key := b_weigh (d := d) (L := L3) (M := I) (I := I9) (P := pRd P t 3) (c := 3) (n := c.length) (i := 0) (cs := c) hP3 hV9 (Or.inl rfl) n9 (by omega) (by omega) (cT_c a3 (fun j _ => by rw [e9, zuI_ne (by decide)])) hcq.2.2 (cQ_g hcq) (by omega) (K := fun I13 L14 P15 => ((1 : Int32) = 0 ∨ (1 : Int32) = 1) ∧ (205 : Nat) = 205 ∧ ∃ r, some (Value.int 1) = some (.int r) ∧ K r I13 L14 P15) (fun I13 f13 r13 => ⟨Or.inr rfl, qi (kO e u c hq I13 L3 hP3 ?_ l3 ?_ ?_ ?_ r13)⟩)
    · rw [Nat.zero_add] at key
      exact key
    · intro a ha
      unfold wtC at ha
      rw [f13 a (by omega), f9 a (by omega)]
    · rw [f13 1 (by decide), e9, zuI_v]
    · rw [f13 17 (by decide), e9, zuI_ne (by decide)]; exact a0
    · rw [f13 17 (by decide), e9, zuI_ne (by decide)]; exact a1
/-- behind a formula -/
theorem Rl_wf (h : Rl I I L P t st b cd) (hP1 : zPk (pRd P t 3)) (hf : ∀ a, ¬ wtC a → I1 a = I a) (hL : ∀ x, x ≠ 22 → L1 x = L x) (h1 : I1 1 1 = 0) (hw : wFr I1 L1 I2 L2) (h17 : I1 17 0 = I2 160 4 ∧ I1 17 1 = I2 160 5) : Rl I2 I2 L2 (pRd P t 3) t st b cd := by
  have hS := h.2.1.1
  have em : eM I I1 := fun a ha => hf a (by unfold wtC; omega)
  obtain ⟨f, lz, t2, u166, c1400, mp⟩ := hw
  have hE : mE I I2 := mE_tr (mE_c em) ⟨zFr_wk f (fun a ha => meC_hi ((by decide : ∀ x ∈ wC, x ∈ [161, 162, 166, 175, 176, 177, 178, 179, 180, 181, 182, 183, 184, 185, 186, 187, 188, 189, 190, 191, 192, 193, 194, 195, 196, 197, 198, 199, 200, 201, 202, 203, 204]) a ha)) (by decide), u166, c1400⟩
  have hSe : mSe I I2 := by
    unfold mSe
    rw [f.1 180 (by decide) (by decide), f.1 181 (by decide) (by decide), f.1 182 (by decide) (by decide), f.2 38 (by decide), f.2 39 (by decide), f.2 40 (by decide), em 180 (by decide), em 181 (by decide), em 182 (by decide), em 160 (by decide)]
    exact mSe_rf I
  have ho : bOt I I2 3 := by
    intro c _
    rw [f.1 199 (by decide) (by decide), f.1 200 (by decide) (by decide), f.1 201 (by decide) (by decide), f.1 202 (by decide) (by decide), f.1 203 (by decide) (by decide), f.1 204 (by decide) (by decide), em 199 (by decide), em 200 (by decide), em 201 (by decide), em 202 (by decide), em 203 (by decide), em 204 (by decide)]
    exact ⟨rfl, rfl, rfl, fun _ _ => rfl, fun _ _ => rfl, fun _ _ => rfl⟩
  have hG : mG I I2 := by
    unfold mG
    rw [f.1 189 (by decide) (by decide), f.1 190 (by decide) (by decide), f.1 191 (by decide) (by decide), f.1 192 (by decide) (by decide), f.1 197 (by decide) (by decide), f.2 59 (by decide), f.2 60 (by decide), em 189 (by decide), em 190 (by decide), em 191 (by decide), em 192 (by decide), em 197 (by decide), em 160 (by decide)]
    exact ⟨⟨rfl, rfl, rfl, rfl, rfl⟩, rfl, rfl⟩
  have ht := (Rl_t0 h).2.2
  have hil := ht
  unfold il at hil
  have c2 : ∀ a, a < 160 → I2 a = I1 a := fun a ha => f.1 a (by simp only [List.mem_cons, List.not_mem_nil, or_false]; omega) (by omega)
  have cc : ∀ a, a < 160 → ¬ wtC a → I2 a = I a := fun a a1 a2 => by rw [c2 a a1, hf a a2]
  have vt : vTp I2 = 0 := by unfold vTp; rw [t2]; decide
  obtain ⟨g, hs⟩ := h.2.2.2.2.2.1
  unfold wtC at cc
  refine Rl_mk h hE (mSe_MSc hE hSe mp hS h.2.1.2.1) ⟨⟨by rw [vt]; omega, by rw [vt, t2]; rfl, fun k => ?_⟩, by rw [vt]; omega, ?_, fun k hk => absurd hk (by rw [vt]; omega)⟩ ?_ ⟨mG_H hG h.2.1.2.2.2.1, by rw [hG.2.2]; exact h.2.1.2.2.2.2, sgR_c (mE_sg hE hG h.2.2.2.2.2.2.2.1) (fun a a1 a2 => cc a (by omega) (by omega))⟩ ⟨g, rSc_c (rSc_m hs hE hSe hS) (fun a ha => cc a (by omega) (by omega)) (pRd_o (by decide))⟩ (rBx_m (rBx_c ht h.2.2.2.2.2.2.1 (cc 89 (by decide) (by omega)) (cc t (by omega) (by omega)) (fun a a1 a2 => cc a (by omega) (by omega)) (fun k hk => pRd_o (by omega))) hE ho) (fun a a1 a2 => cc a (by omega) (by omega)) (gK_c h.2.2.2.2.2.2.2.2.1 hS.2.2.1.1 (fun a a1 a2 => cc a (by omega) (by omega))) (fun x hx => ?_) hP1 ⟨pRd_o (by decide), pRd_o (by decide)⟩
  · rw [f.1 161 (by decide) (by decide), em 161 (by decide)]; exact h.2.1.2.2.1.2.2 k
  · rw [vt, c2 1 (by decide)]; exact h1
  · rw [c2 17 (by decide)]; exact h17
  · funext j
    rw [lz x j (by omega), hL x (by omega)]
/-- both read the same -/
theorem aRd_one {T' : Nat → Int32} {n' : Nat} (h : Rl I I L P t st b cd) (em : eM I I1) (hL : ∀ x, x ≠ 22 → L1 x = L x) (hx : tX I1 T' n') : aRd T' n' (nmB I1 L1) = aRd (vTt I) (vTp I) (nmB I L) := by
  obtain ⟨rfl, hT⟩ := hx
  have e1 : vTp I1 = vTp I := by unfold vTp; rw [em 160 (by decide)]
  have e2 : nmB I1 L1 = nmB I L := by
    funext v
    unfold nmB
    have eB : vB I1 = vB I := by unfold vB; rw [em 160 (by decide)]
    rw [eB, eM_np em, hL 174 (by decide)]
  rw [e2, ← e1]
  refine aRd_cg (fun k hk => ?_)
  rw [hT k hk]
  unfold vTt
  rw [em 161 (by decide)]
theorem wt_R (h : Rl I I L P t st b cd) (em : eM I I1) : MSc I1 ∧ MCb I1 ∧ MTp I1 := by
  have := (Rl_same (M' := I1) h em).2.1
  exact ⟨this.1, this.2.1, this.2.2.1⟩
abbrev gw_X11_ask (d : Nat) (Q : zQt) (pc : Nat) (lv : zV) (st : List Value) (I : zI) (L : zL) (P : zP) : Prop := zW zm_X11_ask (zRm d 0 0) 0 0 Q pc lv st I L P 205 0 0
abbrev v_X11_ask (d : Nat) (Q : zQt)  (I : zI) (L : zL) (P : zP) : Prop :=
  zMi zm_X11_weighTape d [.ref 0] I L P (fun r5 I1 L2 P3 =>
    ((r5 = 0 →
      Q (some (.int (-1000000))) I1 L2 P3 205
    ) ∧ (¬ r5 = 0 →
      zPk P3 ∧
      zMr zm_X4_result d [.ref 23] I1 L2 P3 (fun r12 I8 L9 P10 =>
        ∃ b13 : Nat, P10 0 2 = some b13 ∧
        (b13 < 205 ∧ (zsh b13).1 = 2) ∧
        ∃ n17, (r12 < 205 ∧ zsh r12 = (100, n17)) ∧
        vp_in (I8 b13 1) n17 ∧
        Q (some (.int (I8 r12 (I8 b13 1).toNatClampNeg))) I8 L9 P10 205
      )
    ))
  )
set_option maxRecDepth 20000 in
theorem g_X11_ask {d : Nat} {Q : zQt}  {I : zI} {L : zL} {P : zP} (hP : zPk P) (hv : v_X11_ask d Q  I L P) : zM zm_X11_ask (d + 1) 0 0 [.ref 0] I L P 205 Q := by
  unfold v_X11_ask at hv
  refine zM_of (lv0 := [some (.ref 0)]) (by decide +kernel) (Nat.le_of_ble_eq_true rfl) rfl ?_
  refine z_aload_n dX11_ask_0 rfl ?_
  refine z_callV (As := []) (st := []) dX11_ask_1 zl_X11_150 zv_X11_weighTape (by decide) rfl zn_0 zo_0 rfl rfl (Nat.le_of_ble_eq_true rfl) ⟨Nat.le_refl _, Nat.le_refl _⟩ ⟨Nat.le_refl _, Nat.le_refl _⟩ hv (fun v1 I1 L2 P3 nx1 q4 => ?_)
  obtain ⟨rfl, r5, rfl, hv⟩ := q4
  refine z_if_eq (tgt := 25) dX11_ask_4 (by decide) (fun q6 => ?_) (fun q6 => ?_)
  · have hv := hv.1 q6
    refine z_ldc (v := (-1000000)) dX11_ask_25 zi_X11_161 ?_
    exact z_ireturn dX11_ask_27 rfl rfl (Nat.le_refl _) (Nat.le_refl _) hv
  · have hv := hv.2 q6
    refine z_aload_n dX11_ask_7 rfl ?_
    obtain ⟨h7, hv⟩ := hv
    refine z_getP dX11_ask_8 zf_X11_45 zn_0 zo_0 (fun _ _ _ _ _ => rfl) (h7 0 5 23 zp_0_5) ?_
    refine z_callV (As := []) (st := []) dX11_ask_11 zl_X11_154 zv_X4_result (by decide) rfl zn_23 zo_23 rfl rfl (Nat.le_of_ble_eq_true rfl) ⟨Nat.le_refl _, Nat.le_refl _⟩ ⟨Nat.le_refl _, Nat.le_refl _⟩ hv (fun v1 I8 L9 P10 nx1 q11 => ?_)
    obtain ⟨rfl, r12, rfl, hv⟩ := q11
    refine z_aload_n dX11_ask_14 rfl ?_
    obtain ⟨b13, h14, hv⟩ := hv
    refine z_getP dX11_ask_15 zf_X11_26 zn_0 zo_0 (fun _ _ _ _ _ => rfl) h14 ?_
    obtain ⟨h15, hv⟩ := hv
    refine z_getI dX11_ask_18 zf_X11_158 h15.1 h15.2 (fun _ _ _ _ _ => rfl) ?_
    obtain ⟨n17, h16, hv⟩ := hv
    obtain ⟨h18, hv⟩ := hv
    refine z_iaload dX11_ask_21 h16.1 h16.2 h18 ?_
    refine z_goto (tgt := 27) dX11_ask_22 (by decide) ?_
    exact z_ireturn dX11_ask_27 rfl rfl (Nat.le_refl _) (Nat.le_refl _) hv
theorem q_ask (h : Rl I I L P t st b cd) (hd : 72 ≤ d) : zMi zm_X11_ask d [.ref 0] I L P (fun r I1 L1 P1 => zPk P1 ∧ zMi zm_X12_ask d [.ref 160] I1 L1 P1 (q2 r)) := by
  obtain ⟨d, rfl⟩ : ∃ e, d = e + 1 := ⟨d - 1, by omega⟩
  have hP := h.1.1
  have hS := h.2.1.1
  have hN := vN_le hS.1.1
  have tw := hS.2.1.1
  obtain ⟨e0, h8, hi⟩ := Rl_t0 h
  have hil := hi
  unfold il at hil
  have hR := h.2.2.1.1
  refine g_X11_ask hP (sp_X11_weighTape h (by omega) (fun q hq I1 L1 hP1 f1 l1 a1 a2 a3 => ⟨fun _ => qj hP1 ?_, fun z => absurd rfl z⟩) (fun e u c hq I1 L1 hP1 f1 l1 a1 a2 a3 r1 => ⟨fun z => absurd z (by decide), fun _ => ⟨hP1, sp_X4_result hP1 ?_⟩⟩))
  · have em : eM I I1 := fun a ha => f1 a (by unfold wtC; omega)
    obtain ⟨s1, s2, s3⟩ := wt_R h em
    refine sp_X12_ask hP1 s1 s2 s3 (by omega) (fun T' n' hx q' hq' hk I2 L2 w2 x4 x5 => ?_) (fun T' n' hx e' u' c' hq' => ?_)
    · rw [aRd_one h em l1 hx, hq] at hq'
      have : q = q' := Sum.inl.inj hq'
      subst this
      exact ⟨rfl, hP1, Rn_i (Rl_wf h hP1 f1 l1 a1 w2 ⟨by rw [a2, x4], by rw [a3, x5]⟩)⟩
    · rw [aRd_one h em l1 hx, hq] at hq'; cases hq'
  · have em : eM I I1 := fun a ha => f1 a (by unfold wtC; omega)
    obtain ⟨s1, s2, s3⟩ := wt_R h em
    have e1 : I1 t 1 = nI (vTw I) := by rw [f1 t (by unfold wtC; omega)]; exact hR.2.1
    refine ⟨t, by rw [pRd_o (by decide)]; exact h.1.2.1, (il_P hi hP).1, 256, by decide +kernel, ?_⟩
    rw [e1, nI_cl (by omega), r1 (vTw I) tw hS.2.2.2.2.2.2]
    refine ⟨nx_in (by omega) (by decide), qj hP1 (sp_X12_ask hP1 s1 s2 s3 (by omega) (fun T' n' hx q' hq' => ?_) (fun T' n' hx e' u' c' hq' cq I2 L2 w2 x4 x5 => ?_))⟩
    · rw [aRd_one h em l1 hx, hq] at hq'; cases hq'
    · rw [aRd_one h em l1 hx, hq] at hq'
      have ec : c = c' := congrArg (fun y : Nat × Nat × Cd => y.2.2) (Sum.inr.inj hq')
      subst ec
      rw [eM_po em, eM_gn em, eM_rw em, eM_tw em]
      exact ⟨rfl, hP1, Rn_i (Rl_wf h hP1 f1 l1 a1 w2 ⟨by rw [a2, x4], by rw [a3, x5]⟩)⟩
abbrev gw_X11_holds (d : Nat) (Q : zQt) (pc : Nat) (lv : zV) (st : List Value) (I : zI) (L : zL) (P : zP) : Prop := zW zm_X11_holds (zRm d 0 0) 0 0 Q pc lv st I L P 205 0 0
abbrev v_X11_holds (d : Nat) (Q : zQt)  (I : zI) (L : zL) (P : zP) : Prop :=
  zMi zm_X11_weighTape d [.ref 0] I L P (fun r5 I1 L2 P3 =>
    ((r5 = 0 →
      Q (some (.int (-1))) I1 L2 P3 205
    ) ∧ (¬ r5 = 0 →
      zPk P3 ∧
      zMr zm_X4_result d [.ref 23] I1 L2 P3 (fun r12 I8 L9 P10 =>
        zMi zm_X6_countSo d [.ref 73, .ref r12] I8 L9 P10 (fun r17 I13 L14 P15 =>
          Q (some (.int r17)) I13 L14 P15 205
        )
      )
    ))
  )
set_option maxRecDepth 20000 in
theorem g_X11_holds {d : Nat} {Q : zQt}  {I : zI} {L : zL} {P : zP} (hP : zPk P) (hv : v_X11_holds d Q  I L P) : zM zm_X11_holds (d + 1) 0 0 [.ref 0] I L P 205 Q := by
  unfold v_X11_holds at hv
  refine zM_of (lv0 := [some (.ref 0)]) (by decide +kernel) (Nat.le_of_ble_eq_true rfl) rfl ?_
  refine z_aload_n dX11_holds_0 rfl ?_
  refine z_callV (As := []) (st := []) dX11_holds_1 zl_X11_150 zv_X11_weighTape (by decide) rfl zn_0 zo_0 rfl rfl (Nat.le_of_ble_eq_true rfl) ⟨Nat.le_refl _, Nat.le_refl _⟩ ⟨Nat.le_refl _, Nat.le_refl _⟩ hv (fun v1 I1 L2 P3 nx1 q4 => ?_)
  obtain ⟨rfl, r5, rfl, hv⟩ := q4
  refine z_if_eq (tgt := 24) dX11_holds_4 (by decide) (fun q6 => ?_) (fun q6 => ?_)
  · have hv := hv.1 q6
    refine z_iconst (v := (-1)) dX11_holds_24 (by decide) ?_
    exact z_ireturn dX11_holds_25 rfl rfl (Nat.le_refl _) (Nat.le_refl _) hv
  · have hv := hv.2 q6
    refine z_aload_n dX11_holds_7 rfl ?_
    obtain ⟨h7, hv⟩ := hv
    refine z_getP dX11_holds_8 zf_X11_57 zn_0 zo_0 (fun _ _ _ _ _ => rfl) (h7 0 6 73 zp_0_6) ?_
    refine z_aload_n dX11_holds_11 rfl ?_
    refine z_getP dX11_holds_12 zf_X11_45 zn_0 zo_0 (fun _ _ _ _ _ => rfl) (h7 0 5 23 zp_0_5) ?_
    refine z_callV (As := []) (st := [.ref 73]) dX11_holds_15 zl_X11_154 zv_X4_result (by decide) rfl zn_23 zo_23 rfl rfl (Nat.le_of_ble_eq_true rfl) ⟨Nat.le_refl _, Nat.le_refl _⟩ ⟨Nat.le_refl _, Nat.le_refl _⟩ hv (fun v1 I8 L9 P10 nx1 q11 => ?_)
    obtain ⟨rfl, r12, rfl, hv⟩ := q11
    refine z_callV (As := [.ref r12]) (st := []) dX11_holds_18 zl_X11_162 zv_X6_countSo (by decide) rfl zn_73 zo_73 rfl rfl (Nat.le_of_ble_eq_true rfl) ⟨Nat.le_refl _, Nat.le_refl _⟩ ⟨Nat.le_refl _, Nat.le_refl _⟩ hv (fun v1 I13 L14 P15 nx1 q16 => ?_)
    obtain ⟨rfl, r17, rfl, hv⟩ := q16
    refine z_goto (tgt := 25) dX11_holds_21 (by decide) ?_
    exact z_ireturn dX11_holds_25 rfl rfl (Nat.le_refl _) (Nat.le_refl _) hv
theorem q_holds (h : Rl I I L P t st b cd) (hd : 72 ≤ d) : zMi zm_X11_holds d [.ref 0] I L P (fun r I1 L1 P1 => zPk P1 ∧ zMi zm_X12_holds d [.ref 160] I1 L1 P1 (q2 r)) := by
  obtain ⟨d, rfl⟩ : ∃ e, d = e + 1 := ⟨d - 1, by omega⟩
  have hP := h.1.1
  have hS := h.2.1.1
  have hN := vN_le hS.1.1
  obtain ⟨g, hs, -⟩ := h.2.2.2.2.2.1
  refine g_X11_holds hP (sp_X11_weighTape h (by omega) (fun q hq I1 L1 hP1 f1 l1 a1 a2 a3 => ⟨fun _ => qj hP1 ?_, fun z => absurd rfl z⟩) (fun e u c hq I1 L1 hP1 f1 l1 a1 a2 a3 r1 => ⟨fun z => absurd z (by decide), fun _ => ⟨hP1, sp_X4_result hP1 ?_⟩⟩))
  · have em : eM I I1 := fun a ha => f1 a (by unfold wtC; omega)
    obtain ⟨s1, s2, s3⟩ := wt_R h em
    refine sp_X12_holds hP1 s1 s2 s3 (by omega) (fun T' n' hx q' hq' hk I2 L2 w2 x4 x5 => ?_) (fun T' n' hx e' u' c' hq' => ?_)
    · rw [aRd_one h em l1 hx, hq] at hq'
      have : q = q' := Sum.inl.inj hq'
      subst this
      exact ⟨rfl, hP1, Rn_i (Rl_wf h hP1 f1 l1 a1 w2 ⟨by rw [a2, x4], by rw [a3, x5]⟩)⟩
    · rw [aRd_one h em l1 hx, hq] at hq'; cases hq'
  · have em : eM I I1 := fun a ha => f1 a (by unfold wtC; omega)
    obtain ⟨s1, s2, s3⟩ := wt_R h em
    refine sp_X6_countSo hP1 (Or.inl ⟨rfl, rfl, rfl⟩) (by decide) (cS_c hs.1.2.1 (by rw [f1 73 (by unfold wtC; omega)]) (f1 85 (by unfold wtC; omega))) ?_
    have ecn : cN (fun w => ¬ I1 25 w = 0) (lP (vPoss I) (vN I)) = cP (fun w => vPoss I w ∧ ¬ aRw I (vPoss I) (vGn I) (cMp c) w = 0) (vN I) := by
      rw [cN_K, lP_K, lP_c (po' := fun w => vPoss I w ∧ ¬ aRw I (vPoss I) (vGn I) (cMp c) w = 0) (fun w hw => ⟨fun z => ⟨z.1, by rw [← r1 w hw z.1]; exact z.2⟩, fun z => ⟨z.1, by rw [r1 w hw z.1]; exact z.2⟩⟩), lP_len]
    rw [ecn]
    refine qj hP1 (sp_X12_holds hP1 s1 s2 s3 (by omega) (fun T' n' hx q' hq' => ?_) (fun T' n' hx e' u' c' hq' cq I2 L2 w2 x4 x5 => ?_))
    · rw [aRd_one h em l1 hx, hq] at hq'; cases hq'
    · rw [aRd_one h em l1 hx, hq] at hq'
      have ec : c = c' := congrArg (fun y : Nat × Nat × Cd => y.2.2) (Sum.inr.inj hq')
      subst ec
      rw [eM_po em, eM_gn em, eM_rw em, eM_n em]
      exact ⟨rfl, hP1, Rn_i (Rl_wf h hP1 f1 l1 a1 w2 ⟨by rw [a2, x4], by rw [a3, x5]⟩)⟩
end QH
