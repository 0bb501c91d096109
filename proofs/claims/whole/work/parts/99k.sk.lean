/-! ===== class and model: say ===== -/
section QI
variable {d : Nat} {I I1 I2 : zI} {L L1 L2 : zL} {P : zP} {t st : Nat} {b : Nat → Nat} {cd : Nat → Cd}
theorem sV_M {M M' : zI} {s l v gn : Nat} {po : Nat → Prop} {g : Nat → Nat → Nat} (h : sV P s l v t M I po g gn) (hE : mE M M') (hS : mSe M M') (hM : MSc M) : sV P s l v t M' I po g gn := by
  obtain ⟨h1, h2, h3, h4⟩ := h
  have hN := vN_le hM.1.1
  refine ⟨by rw [mE_np hE, mE_n hE]; exact h1, ?_, h3, by rw [mE_tw hE]; exact h4⟩
  intro p hp a c ha hc pa pc
  rw [mE_np hE] at hp
  rw [mE_n hE] at ha hc
  rw [mSe_lk hE hS hM.1.2.2 (by omega) (by omega)]
  exact h2 p hp a c ha hc pa pc
theorem wFr_e (f : zFr wC wL I1 I2) (u : ∀ k, k ≠ 2 → I2 166 k = I1 166 k) (c : ∀ k, k < 1400 → I2 175 k = I1 175 k ∧ I2 176 k = I1 176 k) : mE I1 I2 ∧ mSe I1 I2 := by
  refine ⟨⟨zFr_wk f (fun a ha => meC_hi ((by decide : ∀ x ∈ wC, x ∈ [161, 162, 166, 175, 176, 177, 178, 179, 180, 181, 182, 183, 184, 185, 186, 187, 188, 189, 190, 191, 192, 193, 194, 195, 196, 197, 198, 199, 200, 201, 202, 203, 204]) a ha)) (by decide), u, c⟩, ?_⟩
  unfold mSe
  rw [f.1 180 (by decide) (by decide), f.1 181 (by decide) (by decide), f.1 182 (by decide) (by decide), f.2 38 (by decide), f.2 39 (by decide), f.2 40 (by decide)]
  exact mSe_rf I1
/-- class cells of one heap, model cells of another -/
noncomputable def hV2 (A B : zI) : zI := fun a => if a < 160 then A a else B a
theorem hV2_lo {A B : zI} {a : Nat} (h : a < 160) : hV2 A B a = A a := if_pos h
theorem hV2_hi {A B : zI} {a : Nat} (h : 160 ≤ a) : hV2 A B a = B a := if_neg (by omega)
/-- the class went on from A, the model worked at B: as if the model had worked at A -/
theorem wFr_v {A B C : zI} (hAB : eM A B) (h : wFr B L1 C L2) : wFr A L1 (hV2 A C) L2 := by
  obtain ⟨f, lz, t2, u166, c1400, mp⟩ := h
  refine ⟨⟨fun a p q => ?_, fun k p => ?_⟩, lz, by rw [hV2_hi (by decide)]; exact t2, fun k hk => ?_, fun k hk => ?_, ?_⟩
  · by_cases c : a < 160
    · exact hV2_lo c
    · rw [hV2_hi (by omega), f.1 a p q, hAB a (by omega)]
  · rw [hV2_hi (by decide), f.2 k p, hAB 160 (by decide)]
  · rw [hV2_hi (by decide), u166 k hk, hAB 166 (by decide)]
  · rw [hV2_hi (by decide), hV2_hi (by decide), (c1400 k hk).1, (c1400 k hk).2, hAB 175 (by decide), hAB 176 (by decide)]; exact ⟨rfl, rfl⟩
  · exact MP_fr (eM_f (I := C) (I1 := hV2 A C) (fun a ha => hV2_hi ha)) (by decide) (n160 (by decide)) (n160 (by decide)) (by decide) (n160 (by decide)) (n160 (by decide)) (n160 (by decide)) (n160 (by decide)) (by decide) mp
abbrev gw_X11_say (d : Nat) (Q : zQt) (pc : Nat) (lv : zV) (st : List Value) (I : zI) (L : zL) (P : zP) : Prop := zW zm_X11_say (zRm d 0 0) 0 0 Q pc lv st I L P 205 0 0
abbrev v_X11_say (d : Nat) (Q : zQt)  (I : zI) (L : zL) (P : zP) : Prop :=
  zMi zm_X11_weighTape d [.ref 0] I L P (fun r5 I1 L2 P3 =>
    ((r5 = 0 →
      Q (some (.int (-1))) I1 L2 P3 205
    ) ∧ (¬ r5 = 0 →
      zPk P3 ∧
      zMr zm_X4_result d [.ref 23] I1 L2 P3 (fun r12 I8 L9 P10 =>
        zMi zm_X6_hear d [.ref 73, .ref r12] I8 L9 P10 (fun r17 I13 L14 P15 =>
          Q (some (.int r17)) I13 L14 P15 205
        )
      )
    ))
  )
set_option maxRecDepth 20000 in
theorem g_X11_say {d : Nat} {Q : zQt}  {I : zI} {L : zL} {P : zP} (hP : zPk P) (hv : v_X11_say d Q  I L P) : zM zm_X11_say (d + 1) 0 0 [.ref 0] I L P 205 Q := by
  unfold v_X11_say at hv
  refine zM_of (lv0 := [some (.ref 0)]) (by decide +kernel) (Nat.le_of_ble_eq_true rfl) rfl ?_
  refine z_aload_n dX11_say_0 rfl ?_
  refine z_callV (As := []) (st := []) dX11_say_1 zl_X11_150 zv_X11_weighTape (by decide) rfl zn_0 zo_0 rfl rfl (Nat.le_of_ble_eq_true rfl) ⟨Nat.le_refl _, Nat.le_refl _⟩ ⟨Nat.le_refl _, Nat.le_refl _⟩ hv (fun v1 I1 L2 P3 nx1 q4 => ?_)
  obtain ⟨rfl, r5, rfl, hv⟩ := q4
  refine z_if_eq (tgt := 24) dX11_say_4 (by decide) (fun q6 => ?_) (fun q6 => ?_)
  · have hv := hv.1 q6
    refine z_iconst (v := (-1)) dX11_say_24 (by decide) ?_
    exact z_ireturn dX11_say_25 rfl rfl (Nat.le_refl _) (Nat.le_refl _) hv
  · have hv := hv.2 q6
    refine z_aload_n dX11_say_7 rfl ?_
    obtain ⟨h7, hv⟩ := hv
    refine z_getP dX11_say_8 zf_X11_57 zn_0 zo_0 (fun _ _ _ _ _ => rfl) (h7 0 6 73 zp_0_6) ?_
    refine z_aload_n dX11_say_11 rfl ?_
    refine z_getP dX11_say_12 zf_X11_45 zn_0 zo_0 (fun _ _ _ _ _ => rfl) (h7 0 5 23 zp_0_5) ?_
    refine z_callV (As := []) (st := [.ref 73]) dX11_say_15 zl_X11_154 zv_X4_result (by decide) rfl zn_23 zo_23 rfl rfl (Nat.le_of_ble_eq_true rfl) ⟨Nat.le_refl _, Nat.le_refl _⟩ ⟨Nat.le_refl _, Nat.le_refl _⟩ hv (fun v1 I8 L9 P10 nx1 q11 => ?_)
    obtain ⟨rfl, r12, rfl, hv⟩ := q11
    refine z_callV (As := [.ref r12]) (st := []) dX11_say_18 zl_X11_170 zv_X6_hear (by decide) rfl zn_73 zo_73 rfl rfl (Nat.le_of_ble_eq_true rfl) ⟨Nat.le_refl _, Nat.le_refl _⟩ ⟨Nat.le_refl _, Nat.le_refl _⟩ hv (fun v1 I13 L14 P15 nx1 q16 => ?_)
    obtain ⟨rfl, r17, rfl, hv⟩ := q16
    refine z_goto (tgt := 25) dX11_say_21 (by decide) ?_
    exact z_ireturn dX11_say_25 rfl rfl (Nat.le_refl _) (Nat.le_refl _) hv
theorem q_say (h : Rl I I L P t st b cd) (hd : 72 ≤ d) : zMi zm_X11_say d [.ref 0] I L P (fun r I1 L1 P1 => zPk P1 ∧ zMi zm_X12_say d [.ref 160] I1 L1 P1 (q2 r)) := by
  obtain ⟨d, rfl⟩ : ∃ e, d = e + 1 := ⟨d - 1, by omega⟩
  have hP := h.1.1
  have hS := h.2.1.1
  have hR := h.2.2.1.1
  obtain ⟨e0, h8, hi⟩ := Rl_t0 h
  have hil := hi
  unfold il at hil
  obtain ⟨g, hs, h5, h6, j, hj, ej⟩ := h.2.2.2.2.2.1
  have q5 : ∀ a, t ≤ a → a ≤ t + 5 → ¬ wtC a := fun a _ _ => by unfold wtC; omega
  have q7 : ∀ a, (a = 73 ∨ a = 85 ∨ a = t ∨ (74 ≤ a ∧ a ≤ 74 + 10)) → ¬ wtC a := fun a _ => by unfold wtC; omega
  refine g_X11_say hP (sp_X11_weighTape h (by omega) (fun q hq I1 L1 hP1 f1 l1 a1 a2 a3 => ⟨fun _ => qj hP1 ?_, fun z => absurd rfl z⟩) (fun e u c hq I1 L1 hP1 f1 l1 a1 a2 a3 r1 => ⟨fun z => absurd z (by decide), fun _ => ⟨hP1, sp_X4_result hP1 ?_⟩⟩))
  · have em : eM I I1 := fun a ha => f1 a (by unfold wtC; omega)
    obtain ⟨s1, s2, s3⟩ := wt_R h em
    refine sp_X12_say hP1 s1 s2 s3 (by omega) (fun T' n' hx q' hq' hk I2 L2 w2 x4 x5 => ?_) (fun T' n' hx e' u' c' hq' => ?_) (fun T' n' hx e' u' c' hq' => ?_)
    · rw [aRd_one h em l1 hx, hq] at hq'
      have : q = q' := Sum.inl.inj hq'
      subst this
      exact ⟨rfl, hP1, Rn_i (Rl_wf h hP1 f1 l1 a1 w2 ⟨by rw [a2, x4], by rw [a3, x5]⟩)⟩
    · rw [aRd_one h em l1 hx, hq] at hq'; cases hq'
    · rw [aRd_one h em l1 hx, hq] at hq'; cases hq'
  · have em : eM I I1 := fun a ha => f1 a (by unfold wtC; omega)
    have hR1 : tR I I1 t st b cd := tR_c hR (fun a a1 a2 => f1 a (q5 a a1 a2))
    have hV1 : sV (pRd P t 3) 73 85 74 t I I1 (vPoss I) g (vGn I) := by
      obtain ⟨w1, w2, w3, w4⟩ := hs
      obtain ⟨x1, x2, x3, x4, x5, x6, x7⟩ := wH_fr w1 (fun a ha => f1 a (q7 a ha))
      exact ⟨⟨x1, x2, x3, x4, by rw [pRd_o (by decide)]; exact x5, x6, x7⟩, w2, by rw [f1 73 (q7 73 (by omega))]; exact w3, w4⟩
    have h73 : I1 73 = I 73 := f1 73 (q7 73 (by omega))
    refine b_hear (r := aRw I (vPoss I) (vGn I) (cMp c)) hP1 hS.2.1 hR1 hV1 r1 (by omega) (fun z => ?_) (fun z I2 f2 o2 hVh => ?_)
    · obtain ⟨s1, s2, s3⟩ := wt_R h em
      refine qj hP1 (sp_X12_say hP1 s1 s2 s3 (by omega) (fun T' n' hx q' hq' => ?_) (fun T' n' hx e' u' c' hq' cq zz I2 L2 w2 x4 x5 => ?_) (fun T' n' hx e' u' c' hq' cq zz => ?_))
      · rw [aRd_one h em l1 hx, hq] at hq'; cases hq'
      · exact ⟨rfl, hP1, Rn_i (Rl_wf h hP1 f1 l1 a1 w2 ⟨by rw [a2, x4], by rw [a3, x5]⟩)⟩
      · rw [aRd_one h em l1 hx, hq] at hq'
        have ec : c = c' := congrArg (fun y : Nat × Nat × Cd => y.2.2) (Sum.inr.inj hq')
        subst ec
        rw [eM_po em, eM_gn em, eM_rw em, eM_tw em] at zz
        exact absurd z zz
    · have em12 : eM I1 I2 := fun a ha => f2 a (by simp only [List.mem_cons, List.not_mem_nil, or_false]; omega)
      have em2 : eM I I2 := fun a ha => by rw [em12 a ha, em a ha]
      obtain ⟨s1, s2, s3⟩ := wt_R h em2
      refine qj hP1 (sp_X12_say hP1 s1 s2 s3 (by omega) (fun T' n' hx q' hq' => ?_) (fun T' n' hx e' u' c' hq' cq zz => ?_) (fun T' n' hx e' u' c' hq' cq zz I3 L3 w3 x4 x5 I4 ts f4 => ?_))
      · rw [aRd_one h em2 l1 hx, hq] at hq'; cases hq'
      · rw [aRd_one h em2 l1 hx, hq] at hq'
        have ec : c = c' := congrArg (fun y : Nat × Nat × Cd => y.2.2) (Sum.inr.inj hq')
        subst ec
        rw [eM_po em2, eM_gn em2, eM_rw em2, eM_tw em2] at zz
        exact absurd zz z
      · rw [aRd_one h em2 l1 hx, hq] at hq'
        have ec : c = c' := congrArg (fun y : Nat × Nat × Cd => y.2.2) (Sum.inr.inj hq')
        subst ec
        have hwv := wFr_v em12 w3
        have RV := Rl_wf h hP1 f1 l1 a1 hwv ⟨by rw [hV2_hi (by decide), a2, x4], by rw [hV2_hi (by decide), a3, x5]⟩
        have eV3 : eM (hV2 I1 I3) I3 := fun a ha => (hV2_hi ha).symm
        have f3 := w3.1
        have po3 : vPoss I3 = vPoss I := by rw [vPoss_fr f3 (by decide), eM_po em2]
        have gn3 : vGn I3 = vGn I := by
          unfold vGn
          rw [f3.2 40 (by decide), em2 160 (by decide)]
        rw [eM_po em2, eM_gn em2, eM_rw em2, po3, gn3] at ts
        rw [eM_po em2, eM_gn em2, eM_rw em2, eM_n em2]
        have c3 : ∀ a, a < 160 → I3 a = I2 a := fun a ha => f3.1 a (by simp only [List.mem_cons, List.not_mem_nil, or_false]; omega) (by omega)
        obtain ⟨hE3, hS3⟩ := wFr_e f3 w3.2.2.2.1 w3.2.2.2.2.1
        have hE : mE I (hV2 I1 I3) := mE_tr (mE_c em2) (mE_tr hE3 (mE_c (fun a ha => hV2_hi ha)))
        have hSs : mSe I (hV2 I1 I3) := mSe_tr (mSe_c em2) (mSe_tr hS3 (mSe_c (fun a ha => hV2_hi ha)))
        have hV3 : sV (pRd P t 3) 73 85 74 t (hV2 I1 I3) I3 (fun w => vPoss I w ∧ ¬ aRw I (vPoss I) (vGn I) (cMp c) w = 0) g (vGn I) := by
          obtain ⟨w1, w2, w3', w4⟩ := hVh
          refine sV_M ⟨wH_fr w1 (fun a ha => c3 a (by omega)), w2, by rw [c3 73 (by decide)]; exact w3', w4⟩ hE hSs hS
        have e39 : I4 160 39 = I 160 39 := by rw [f4.2 39 (by decide), f3.2 39 (by decide), em2 160 (by decide)]
        refine ⟨rfl, hP1, Rn_i (Rl_sn RV eV3 (fun a ha => ?_) hV3 ts ?_ ?_ ⟨j, hj, by rw [e39]; exact ej⟩)⟩
        · by_cases ca : a < 160
          · rw [hV2_lo ca, c3 a ca, f2 a (by simp only [List.mem_cons, List.not_mem_nil, or_false]; omega)]
          · rw [hV2_hi (by omega)]
        · rw [c3 73 (by decide), o2 5 (by decide), h73, h5, e39]
        · rw [c3 73 (by decide), o2 6 (by decide), h73, h6, hV2_hi (by decide), f3.2 38 (by decide), em2 160 (by decide)]
end QI
