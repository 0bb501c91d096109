/-! ===== class and model: deep ===== -/
section QJ
variable {d : Nat} {I I1 : zI} {L : zL} {P : zP} {t st : Nat} {b : Nat → Nat} {cd : Nat → Cd}
theorem eM_dp (em : eM I I1) : ∀ f x r, aDp I1 f x r = aDp I f x r
  | 0, _, _ => rfl
  | f + 1, x, r => by
    show @ite _ (r (vTw I1) = 0) (Classical.propDecidable _) (nI x) (aDp I1 f (x + 1) (fun w => bP (vPoss I1 w ∧ sAl (vNp I1) (vN I1) (vPoss I1) (vLike I1) r w))) = @ite _ (r (vTw I) = 0) (Classical.propDecidable _) (nI x) (aDp I f (x + 1) (fun w => bP (vPoss I w ∧ sAl (vNp I) (vN I) (vPoss I) (vLike I) r w)))
    rw [eM_dp em f, eM_tw em, eM_np em, eM_n em, eM_po em, eM_lk em]
theorem eM_de (em : eM I I1) (r : Nat → Int32) : aDe I1 r = aDe I r := by
  unfold aDe
  rw [eM_dp em, eM_tw em, eM_np em, eM_n em, eM_po em, eM_lk em]
noncomputable abbrev kB (I : zI) (r : Nat → Int32) (k : Nat) : Nat → Int32 := aKn (vNp I) (vN I) (vPoss I) (vLike I) r k
theorem dp_s (r : Nat → Int32) (f x : Nat) : aDp I (f + 1) x (kB I r (x + 1)) = @ite _ (kB I r (x + 1) (vTw I) = 0) (Classical.propDecidable _) (nI x) (aDp I f (x + 1) (kB I r (x + 1 + 1))) := rfl
theorem dp_m {r : Nat → Int32} {m : Nat} (hm : m < 98) (h1 : ∀ j, j ≤ m → ¬ kB I r j (vTw I) = 0) (h2 : kB I r (m + 1) (vTw I) = 0) : ∀ f x, f + x = 98 → x ≤ m → aDp I f x (kB I r (x + 1)) = nI m
  | 0, x, hx, hl => absurd hl (by omega)
  | f + 1, x, hx, hl => by
    rw [dp_s]
    by_cases c : x = m
    · subst c; rw [if_pos h2]
    · rw [if_neg (h1 (x + 1) (by omega))]
      exact dp_m hm h1 h2 f (x + 1) (by omega) (by omega)
theorem dp_98 {r : Nat → Int32} (h1 : ∀ j, j ≤ 98 → ¬ kB I r j (vTw I) = 0) : ∀ f x, f + x = 98 → aDp I f x (kB I r (x + 1)) = nI 98
  | 0, x, hx => by
    have : x = 98 := by omega
    subst this
    rfl
  | f + 1, x, hx => by
    rw [dp_s, if_neg (h1 (x + 1) (by omega))]
    exact dp_98 h1 f (x + 1) (by omega)
theorem kn_ag {g : Nat → Nat → Nat} {r r' : Nat → Int32} (hg : gLk I (vPoss I) g) (hr : ∀ w, w < vN I → vPoss I w → r' w = r w) : ∀ k w, w < vN I → vPoss I w → aKn (vNp I) (vN I) (xo (lP (vPoss I) (vN I))) (gk g) r' k w = kB I r k w
  | 0, w, hw, pw => hr w hw pw
  | k + 1, w, hw, pw => by
    show bP (xo (lP (vPoss I) (vN I)) w ∧ sAl (vNp I) (vN I) (xo (lP (vPoss I) (vN I))) (gk g) (aKn (vNp I) (vN I) (xo (lP (vPoss I) (vN I))) (gk g) r' k) w) = bP (vPoss I w ∧ sAl (vNp I) (vN I) (vPoss I) (vLike I) (kB I r k) w)
    refine bP_c ?_
    have xw := (sV_po (M := I) (po := vPoss I) hw).mpr pw
    constructor
    · rintro ⟨x1, x2⟩
      refine ⟨pw, fun p hp v hv pv lv => ?_⟩
      have xv := (sV_po (M := I) (po := vPoss I) hv).mpr pv
      rw [← kn_ag hg hr k v hv pv]
      exact x2 p hp v hv xv ((sV_ag hg p w v hp hw hv xw xv).mpr lv)
    · rintro ⟨x1, x2⟩
      refine ⟨xw, fun p hp v hv xv lv => ?_⟩
      have pv := (sV_po (M := I) (po := vPoss I) hv).mp xv
      rw [kn_ag hg hr k v hv pv]
      exact x2 p hp v hv pv ((sV_ag hg p w v hp hw hv xw xv).mp lv)
abbrev gw_X11_deep (d : Nat) (Q : zQt) (pc : Nat) (lv : zV) (st : List Value) (I : zI) (L : zL) (P : zP) : Prop := zW zm_X11_deep (zRm d 0 0) 0 0 Q pc lv st I L P 205 0 0
abbrev v_X11_deep (d : Nat) (Q : zQt)  (I : zI) (L : zL) (P : zP) : Prop :=
  zMi zm_X11_weighTape d [.ref 0] I L P (fun r5 I1 L2 P3 =>
    ((r5 = 0 →
      Q (some (.int (-1000000))) I1 L2 P3 205
    ) ∧ (¬ r5 = 0 →
      zPk P3 ∧
      zMi zm_X4_depth d [.ref 23, .ref 73] I1 L2 P3 (fun r12 I8 L9 P10 =>
        Q (some (.int r12)) I8 L9 P10 205
      )
    ))
  )
set_option maxRecDepth 20000 in
theorem g_X11_deep {d : Nat} {Q : zQt}  {I : zI} {L : zL} {P : zP} (hP : zPk P) (hv : v_X11_deep d Q  I L P) : zM zm_X11_deep (d + 1) 0 0 [.ref 0] I L P 205 Q := by
  unfold v_X11_deep at hv
  refine zM_of (lv0 := [some (.ref 0)]) (by decide +kernel) (Nat.le_of_ble_eq_true rfl) rfl ?_
  refine z_aload_n dX11_deep_0 rfl ?_
  refine z_callV (As := []) (st := []) dX11_deep_1 zl_X11_150 zv_X11_weighTape (by decide) rfl zn_0 zo_0 rfl rfl (Nat.le_of_ble_eq_true rfl) ⟨Nat.le_refl _, Nat.le_refl _⟩ ⟨Nat.le_refl _, Nat.le_refl _⟩ hv (fun v1 I1 L2 P3 nx1 q4 => ?_)
  obtain ⟨rfl, r5, rfl, hv⟩ := q4
  refine z_if_eq (tgt := 21) dX11_deep_4 (by decide) (fun q6 => ?_) (fun q6 => ?_)
  · have hv := hv.1 q6
    refine z_ldc (v := (-1000000)) dX11_deep_21 zi_X11_161 ?_
    exact z_ireturn dX11_deep_23 rfl rfl (Nat.le_refl _) (Nat.le_refl _) hv
  · have hv := hv.2 q6
    refine z_aload_n dX11_deep_7 rfl ?_
    obtain ⟨h7, hv⟩ := hv
    refine z_getP dX11_deep_8 zf_X11_45 zn_0 zo_0 (fun _ _ _ _ _ => rfl) (h7 0 5 23 zp_0_5) ?_
    refine z_aload_n dX11_deep_11 rfl ?_
    refine z_getP dX11_deep_12 zf_X11_57 zn_0 zo_0 (fun _ _ _ _ _ => rfl) (h7 0 6 73 zp_0_6) ?_
    refine z_callV (As := [.ref 73]) (st := []) dX11_deep_15 zl_X11_166 zv_X4_depth (by decide) rfl zn_23 zo_23 rfl rfl (Nat.le_of_ble_eq_true rfl) ⟨Nat.le_refl _, Nat.le_refl _⟩ ⟨Nat.le_refl _, Nat.le_refl _⟩ hv (fun v1 I8 L9 P10 nx1 q11 => ?_)
    obtain ⟨rfl, r12, rfl, hv⟩ := q11
    refine z_goto (tgt := 23) dX11_deep_18 (by decide) ?_
    exact z_ireturn dX11_deep_23 rfl rfl (Nat.le_refl _) (Nat.le_refl _) hv
theorem q_deep (h : Rl I I L P t st b cd) (hd : 72 ≤ d) : zMi zm_X11_deep d [.ref 0] I L P (fun r I1 L1 P1 => zPk P1 ∧ zMi zm_X12_deep d [.ref 160] I1 L1 P1 (q2 r)) := by
  obtain ⟨d, rfl⟩ : ∃ e, d = e + 1 := ⟨d - 1, by omega⟩
  have hP := h.1.1
  have hS := h.2.1.1
  have hR := h.2.2.1.1
  have tw := hS.2.1.1
  have ptw := hS.2.2.2.2.2.2
  obtain ⟨e0, h8, hi⟩ := Rl_t0 h
  have hil := hi
  unfold il at hil
  obtain ⟨g, hs, -⟩ := h.2.2.2.2.2.1
  have q7 : ∀ a, (a = 73 ∨ a = 85 ∨ a = t ∨ (74 ≤ a ∧ a ≤ 74 + 10)) → ¬ wtC a := fun a _ => by unfold wtC; omega
  refine g_X11_deep hP (sp_X11_weighTape h (by omega) (fun q hq I1 L1 hP1 f1 l1 a1 a2 a3 => ⟨fun _ => qj hP1 ?_, fun z => absurd rfl z⟩) (fun e u c hq I1 L1 hP1 f1 l1 a1 a2 a3 r1 => ⟨fun z => absurd z (by decide), fun _ => ⟨hP1, ?_⟩⟩))
  · have em : eM I I1 := fun a ha => f1 a (by unfold wtC; omega)
    obtain ⟨s1, s2, s3⟩ := wt_R h em
    refine sp_X12_deep hP1 s1 s2 s3 (by omega) (fun T' n' hx q' hq' hk I2 L2 w2 x4 x5 => ?_) (fun T' n' hx e' u' c' hq' => ?_)
    · rw [aRd_one h em l1 hx, hq] at hq'
      have : q = q' := Sum.inl.inj hq'
      subst this
      exact ⟨rfl, hP1, Rn_i (Rl_wf h hP1 f1 l1 a1 w2 ⟨by rw [a2, x4], by rw [a3, x5]⟩)⟩
    · rw [aRd_one h em l1 hx, hq] at hq'; cases hq'
  · have hV1 : wH (pRd P t 3) 73 85 74 t (vNp I) (vN I) (lP (vPoss I) (vN I)) g I1 := by
      obtain ⟨x1, x2, x3, x4, x5, x6, x7⟩ := wH_fr hs.1 (fun a ha => f1 a (q7 a ha))
      exact ⟨x1, x2, x3, x4, by rw [pRd_o (by decide)]; exact x5, x6, x7⟩
    have e1 : I1 t 1 = nI (vTw I) := by rw [f1 t (q7 t (by omega))]; exact hR.2.1
    have mdl : ∀ I2 r, (∀ a, ¬ wtC a → I2 a = I a) → I2 1 1 = 0 → I2 17 0 = 0 → I2 17 1 = -1 → r = aDe I (aRw I (vPoss I) (vGn I) (cMp c)) → zMi zm_X12_deep (d + 1) [.ref 160] I2 L1 (pRd P t 3) (q2 r) := by
      intro I2 r f2 b1 b2 b3 hr
      have em : eM I I2 := fun a ha => f2 a (by unfold wtC; omega)
      obtain ⟨s1, s2, s3⟩ := wt_R h em
      refine sp_X12_deep hP1 s1 s2 s3 (by omega) (fun T' n' hx q' hq' => ?_) (fun T' n' hx e' u' c' hq' cq I3 L3 w3 x4 x5 => ?_)
      · rw [aRd_one h em l1 hx, hq] at hq'; cases hq'
      · rw [aRd_one h em l1 hx, hq] at hq'
        have ec : c = c' := congrArg (fun y : Nat × Nat × Cd => y.2.2) (Sum.inr.inj hq')
        subst ec
        rw [eM_po em, eM_gn em, eM_rw em, eM_de em, ← hr]
        exact ⟨rfl, hP1, Rn_i (Rl_wf h hP1 f2 l1 b1 w3 ⟨by rw [b2, x4], by rw [b3, x5]⟩)⟩
    have mf : ∀ I2, wMf I1 I2 → (∀ a, ¬ wtC a → I2 a = I a) ∧ I2 1 1 = 0 ∧ I2 17 0 = 0 ∧ I2 17 1 = -1 := fun I2 f2 => ⟨fun a ha => by rw [f2 a (by unfold wtC at ha; omega), f1 a ha], by rw [f2 1 (by decide)]; exact a1, by rw [f2 17 (by decide)]; exact a2, by rw [f2 17 (by decide)]; exact a3⟩
    have r0 : I1 25 (vTw I) = aRw I (vPoss I) (vGn I) (cMp c) (vTw I) := r1 _ tw ptw
    have kA := kn_ag (r := aRw I (vPoss I) (vGn I) (cMp c)) (r' := I1 25) hs.2.1 r1
    have cm : sCm (vNp I) (vN I) (xo (lP (vPoss I) (vN I))) (gk g) (I1 25) (vTw I) ↔ sCm (vNp I) (vN I) (vPoss I) (vLike I) (aRw I (vPoss I) (vGn I) (cMp c)) (vTw I) := by
      have xw := (sV_po (M := I) (po := vPoss I) tw).mpr ptw
      have co : ∀ v, sCo (vNp I) (vN I) (xo (lP (vPoss I) (vN I))) (gk g) (vTw I) v ↔ sCo (vNp I) (vN I) (vPoss I) (vLike I) (vTw I) v := fun v => sCo_iff (fun w hw => sV_po hw) (fun p x y hp hx hy px py => sV_ag hs.2.1 p x y hp hx hy px py) tw xw
      constructor
      · intro z v hv pv cv
        rw [← r1 v hv pv]
        exact z v hv ((sV_po (M := I) (po := vPoss I) hv).mpr pv) ((co v).mpr cv)
      · intro z v hv xv cv
        have pv := (sV_po (M := I) (po := vPoss I) hv).mp xv
        rw [r1 v hv pv]
        exact z v hv pv ((co v).mp cv)
    have de1 : ¬ I1 25 (vTw I) = 0 → ¬ sCm (vNp I) (vN I) (xo (lP (vPoss I) (vN I))) (gk g) (I1 25) (vTw I) → aDe I (aRw I (vPoss I) (vGn I) (cMp c)) = aDp I 98 0 (kB I (aRw I (vPoss I) (vGn I) (cMp c)) (0 + 1)) := by
      intro z1 z2
      unfold aDe
      rw [if_neg (by rw [← r0]; exact z1), if_neg (fun y => z2 (cm.mpr y))]
      rfl
    refine sp_X4_depth hP1 hV1 e1 (lP_mem.mpr ⟨tw, ptw⟩) (by omega) (fun z => qj hP1 ?_) (fun z z2 I2 f2 => qj hP1 ?_) (fun z z2 m hm k1 k2 I2 f2 => qj hP1 ?_) (fun z z2 k1 I2 f2 => qj hP1 ?_)
    · refine mdl I1 _ f1 a1 a2 a3 ?_
      unfold aDe
      rw [if_pos (by rw [← r0]; exact z)]
    · obtain ⟨y1, y2, y3, y4⟩ := mf I2 f2
      refine mdl I2 _ y1 y2 y3 y4 ?_
      unfold aDe
      rw [if_neg (by rw [← r0]; exact z), if_pos (cm.mp z2)]
    · obtain ⟨y1, y2, y3, y4⟩ := mf I2 f2
      refine mdl I2 _ y1 y2 y3 y4 ?_
      rw [de1 z z2]
      exact (dp_m hm (fun j hj => by rw [← kA j _ tw ptw]; exact k1 j hj) (by rw [← kA (m + 1) _ tw ptw]; exact k2) 98 0 rfl (by omega)).symm
    · obtain ⟨y1, y2, y3, y4⟩ := mf I2 f2
      refine mdl I2 _ y1 y2 y3 y4 ?_
      rw [de1 z z2]
      exact (dp_98 (fun j hj => by rw [← kA j _ tw ptw]; exact k1 j hj) 98 0 rfl).symm
end QJ
