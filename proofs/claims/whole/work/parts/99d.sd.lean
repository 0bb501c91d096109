/-! ===== class and model: more calls that tell ===== -/
section EM
variable {I I1 : zI}
def eM (I I1 : zI) : Prop := ∀ a, 160 ≤ a → I1 a = I a
theorem n160 {x : Nat} (h : 160 ≤ x) : x ∉ List.range 160 := fun z => by rw [List.mem_range] at z; omega
theorem eM_f (h : eM I I1) : zFr (List.range 160) [] I I1 := ⟨fun a p _ => h a (Nat.le_of_not_lt (fun z => p (List.mem_range.mpr z))), fun k _ => by rw [h 160 (by decide)]⟩
theorem eM_n (h : eM I I1) : vN I1 = vN I := vN_fr (eM_f h) (by decide) (n160 (by decide))
theorem eM_np (h : eM I I1) : vNp I1 = vNp I := vNp_fr (eM_f h) (by decide) (n160 (by decide))
theorem eM_tw (h : eM I I1) : vTw I1 = vTw I := vTw_fr (eM_f h) (by decide) (n160 (by decide))
theorem eM_ns (h : eM I I1) : vNs I1 = vNs I := vNs_fr (eM_f h) (by decide) (n160 (by decide))
theorem eM_po (h : eM I I1) : vPoss I1 = vPoss I := vPoss_fr (eM_f h) (n160 (by decide))
theorem eM_lk (h : eM I I1) : vLike I1 = vLike I := vLike_fr' (eM_f h) (by decide) (n160 (by decide)) (n160 (by decide)) (by decide) (n160 (by decide)) (n160 (by decide))
theorem eM_gn (h : eM I I1) : vGn I1 = vGn I := by unfold vGn; rw [h 160 (by decide)]
theorem eM_sy (h : eM I I1) : vSy I1 = vSy I := funext fun i => vSy_fr (eM_f h) (by decide) (n160 (by decide)) (n160 (by decide)) (n160 (by decide)) (n160 (by decide)) i
theorem eM_gs (h : eM I I1) (po : Nat → Prop) (gn w : Nat) : aGs I1 po gn w = aGs I po gn w := aGs_fr (eM_f h) (by decide) (n160 (by decide)) (n160 (by decide)) (by decide) (n160 (by decide)) (n160 (by decide)) (n160 (by decide)) (n160 (by decide)) po gn w
theorem eM_rw (h : eM I I1) (po : Nat → Prop) (gn : Nat) (c : List (Int32 × Int32)) : aRw I1 po gn c = aRw I po gn c := aRw_fr (eM_f h) (by decide) (n160 (by decide)) (n160 (by decide)) (by decide) (n160 (by decide)) (n160 (by decide)) po gn c
theorem eM_gb (h : eM I I1) (said n : Nat) (po : Nat → Prop) (gn : Nat) : aGb I1 said n po gn = aGb I said n po gn := by
  unfold aGb
  rw [eM_ns h, aSy_c (fun po c => eM_rw h po gn c) (eM_sy h) (eM_tw h)]
  cases aSy I said gn (vNs I) 0 po with
  | none => rfl
  | some q => exact congrArg nI (aNt_c (eM_gs h) (eM_tw h) _ _ _ _)
end EM
section QB
variable {d : Nat} {I : zI} {L : zL} {P : zP} {t st : Nat} {b : Nat → Nat} {cd : Nat → Cd}
theorem po_in {x : Int32} (hN : vN I ≤ 256) : (∃ y ∈ lP (vPoss I) (vN I), nI y = x) ↔ ∃ v, v < vN I ∧ x = nI v ∧ vPoss I v := by
  constructor
  · rintro ⟨y, hy, e⟩
    have := lP_mem.mp hy
    exact ⟨y, this.1, e.symm, this.2⟩
  · rintro ⟨v, a, e, c⟩
    exact ⟨v, lP_mem.mpr ⟨a, c⟩, e.symm⟩
abbrev gw_X11_like (d : Nat) (Q : zQt) (pc : Nat) (lv : zV) (st : List Value) (I : zI) (L : zL) (P : zP) : Prop := zW zm_X11_like (zRm d 0 0) 0 0 Q pc lv st I L P 205 0 0
abbrev v_X11_like (d : Nat) (Q : zQt) (p1 : Int32) (p2 : Int32) (p3 : Int32) (I : zI) (L : zL) (P : zP) : Prop :=
  ∃ b1 : Nat, P 0 2 = some b1 ∧
  (b1 < 205 ∧ (zsh b1).1 = 2) ∧
  il b1 ∧
  vp_in (I b1 0) 9 ∧
  (((bP (vp_in p1 (I b1 0).toNatClampNeg)) = 0 →
    Q (some (.int (-1))) I L P 205
  ) ∧ (¬ (bP (vp_in p1 (I b1 0).toNatClampNeg)) = 0 →
    zMi zm_X6_contains d [.ref 73, .int p2] I L P (fun r13 I9 L10 P11 =>
      ((r13 = 0 →
        Q (some (.int (-1))) I9 L10 P11 205
      ) ∧ (¬ r13 = 0 →
        zPk P11 ∧
        zMi zm_X6_contains d [.ref 73, .int p3] I9 L10 P11 (fun r20 I16 L17 P18 =>
          ((¬ r20 = 0 →
            zPk P18 ∧
            zMi zm_X10_areAlike d [.ref 74, .int p1, .int p2, .int p3] I16 L17 P18 (fun r27 I23 L24 P25 =>
              ((r27 = 0 →
                Q (some (.int 0)) I23 L24 P25 205
              ) ∧ (¬ r27 = 0 →
                Q (some (.int 1)) I23 L24 P25 205
              ))
            )
          ) ∧ (r20 = 0 →
            Q (some (.int (-1))) I16 L17 P18 205
          ))
        )
      ))
    )
  ))
set_option maxRecDepth 20000 in
theorem g_X11_like {d : Nat} {Q : zQt} {p1 : Int32} {p2 : Int32} {p3 : Int32} {I : zI} {L : zL} {P : zP} (hP : zPk P) (hv : v_X11_like d Q p1 p2 p3 I L P) : zM zm_X11_like (d + 1) 0 0 [.ref 0, .int p1, .int p2, .int p3] I L P 205 Q := by
  unfold v_X11_like at hv
  refine zM_of (lv0 := [some (.ref 0), some (.int p1), some (.int p2), some (.int p3)]) (by decide +kernel) (Nat.le_of_ble_eq_true rfl) rfl ?_
  refine z_aload_n dX11_like_0 rfl ?_
  obtain ⟨b1, h2, hv⟩ := hv
  refine z_getP dX11_like_1 zf_X11_26 zn_0 zo_0 (fun _ _ _ _ _ => rfl) h2 ?_
  refine z_iload_n dX11_like_4 rfl ?_
  obtain ⟨h3, hv⟩ := hv
  obtain ⟨h4, hv⟩ := hv
  obtain ⟨h5, hv⟩ := hv
  refine z_callV (As := [.int p1]) (st := []) dX11_like_5 zl_X11_127 zv_X2_isPerson (by decide) rfl h3.1 h3.2 rfl rfl (Nat.le_of_ble_eq_true rfl) ⟨Nat.le_refl _, Nat.le_refl _⟩ ⟨Nat.le_refl _, Nat.le_refl _⟩ (sp_X2_isPerson hP h4 h5 (K := fun r I' L' P' => bP (vp_in p1 (I b1 0).toNatClampNeg) = r ∧ I = I' ∧ L = L' ∧ P = P') ⟨rfl, rfl, rfl, rfl⟩) (fun v1 I2 L2 P2 nx1 q7 => ?_)
  obtain ⟨rfl, r6, rfl, rfl, rfl, rfl, rfl⟩ := q7
  refine z_if_eq (tgt := 33) dX11_like_8 (by decide) (fun q8 => ?_) (fun q8 => ?_)
  · have hv := hv.1 q8
    refine z_iconst (v := (-1)) dX11_like_33 (by decide) ?_
    exact z_ireturn dX11_like_34 rfl rfl (Nat.le_refl _) (Nat.le_refl _) hv
  · have hv := hv.2 q8
    refine z_aload_n dX11_like_11 rfl ?_
    refine z_getP dX11_like_12 zf_X11_57 zn_0 zo_0 (fun _ _ _ _ _ => rfl) (hP 0 6 73 zp_0_6) ?_
    refine z_iload_n dX11_like_15 rfl ?_
    refine z_callV (As := [.int p2]) (st := []) dX11_like_16 zl_X11_139 zv_X6_contains (by decide) rfl zn_73 zo_73 rfl rfl (Nat.le_of_ble_eq_true rfl) ⟨Nat.le_refl _, Nat.le_refl _⟩ ⟨Nat.le_refl _, Nat.le_refl _⟩ hv (fun v1 I9 L10 P11 nx1 q12 => ?_)
    obtain ⟨rfl, r13, rfl, hv⟩ := q12
    refine z_if_eq (tgt := 33) dX11_like_19 (by decide) (fun q14 => ?_) (fun q14 => ?_)
    · have hv := hv.1 q14
      refine z_iconst (v := (-1)) dX11_like_33 (by decide) ?_
      exact z_ireturn dX11_like_34 rfl rfl (Nat.le_refl _) (Nat.le_refl _) hv
    · have hv := hv.2 q14
      refine z_aload_n dX11_like_22 rfl ?_
      obtain ⟨h15, hv⟩ := hv
      refine z_getP dX11_like_23 zf_X11_57 zn_0 zo_0 (fun _ _ _ _ _ => rfl) (h15 0 6 73 zp_0_6) ?_
      refine z_iload_n dX11_like_26 rfl ?_
      refine z_callV (As := [.int p3]) (st := []) dX11_like_27 zl_X11_139 zv_X6_contains (by decide) rfl zn_73 zo_73 rfl rfl (Nat.le_of_ble_eq_true rfl) ⟨Nat.le_refl _, Nat.le_refl _⟩ ⟨Nat.le_refl _, Nat.le_refl _⟩ hv (fun v1 I16 L17 P18 nx1 q19 => ?_)
      obtain ⟨rfl, r20, rfl, hv⟩ := q19
      refine z_if_ne (tgt := 35) dX11_like_30 (by decide) (fun q21 => ?_) (fun q21 => ?_)
      · have hv := hv.1 q21
        refine z_aload_n dX11_like_35 rfl ?_
        obtain ⟨h22, hv⟩ := hv
        refine z_getP dX11_like_36 zf_X11_57 zn_0 zo_0 (fun _ _ _ _ _ => rfl) (h22 0 6 73 zp_0_6) ?_
        refine z_getP dX11_like_39 zf_X11_61 zn_73 zo_73 (fun _ _ _ _ _ => rfl) (h22 73 0 74 zp_73_0) ?_
        refine z_iload_n dX11_like_42 rfl ?_
        refine z_iload_n dX11_like_43 rfl ?_
        refine z_iload_n dX11_like_44 rfl ?_
        refine z_callV (As := [.int p1, .int p2, .int p3]) (st := []) dX11_like_45 zl_X11_142 zv_X10_areAlike (by decide) rfl zn_74 zo_74 rfl rfl (Nat.le_of_ble_eq_true rfl) ⟨Nat.le_refl _, Nat.le_refl _⟩ ⟨Nat.le_refl _, Nat.le_refl _⟩ hv (fun v1 I23 L24 P25 nx1 q26 => ?_)
        obtain ⟨rfl, r27, rfl, hv⟩ := q26
        refine z_if_eq (tgt := 55) dX11_like_48 (by decide) (fun q28 => ?_) (fun q28 => ?_)
        · have hv := hv.1 q28
          refine z_iconst (v := 0) dX11_like_55 (by decide) ?_
          exact z_ireturn dX11_like_56 rfl rfl (Nat.le_refl _) (Nat.le_refl _) hv
        · have hv := hv.2 q28
          refine z_iconst (v := 1) dX11_like_51 (by decide) ?_
          refine z_goto (tgt := 56) dX11_like_52 (by decide) ?_
          exact z_ireturn dX11_like_56 rfl rfl (Nat.le_refl _) (Nat.le_refl _) hv
      · have hv := hv.2 q21
        refine z_iconst (v := (-1)) dX11_like_33 (by decide) ?_
        exact z_ireturn dX11_like_34 rfl rfl (Nat.le_refl _) (Nat.le_refl _) hv
theorem q_like {x y z : Int32} (h : Rl I I L P t st b cd) (hd : 4 ≤ d) : zMi zm_X11_like d [.ref 0, .int x, .int y, .int z] I L P (fun r I1 L1 P1 => zPk P1 ∧ zMi zm_X12_like d [.ref 160, .int x, .int y, .int z] I1 L1 P1 (q2 r)) := by
  obtain ⟨d, rfl⟩ : ∃ e, d = e + 1 := ⟨d - 1, by omega⟩
  have hP := h.1.1
  obtain ⟨e0, h8, hi⟩ := Rl_t0 h
  obtain ⟨b1, -⟩ := il_P hi hP
  have hE := h.2.1.1.1
  have hN := vN_le hE.1
  obtain ⟨g, hs, -⟩ := h.2.2.2.2.2.1
  have no : ¬ (vp_in x (vNp I) ∧ (∃ v, v < vN I ∧ y = nI v ∧ vPoss I v) ∧ ∃ v, v < vN I ∧ z = nI v ∧ vPoss I v) → zMi zm_X12_like (d + 1) [.ref 160, .int x, .int y, .int z] I L P (q2 (-1)) := fun hn =>
    sp_X12_like hP hE (by omega) (fun _ => q2_s h) (fun q v u hq hv hu e1 e2 e3 p1 p2 => absurd ⟨by rw [e1]; exact nx_in hq (by omega), ⟨v, hv, e2, p1⟩, ⟨u, hu, e3, p2⟩⟩ hn)
  refine g_X11_like hP ⟨t, h.1.2.1, b1, hi, by rw [e0]; exact nx_in (by omega) (by decide), fun q => qj hP (no ?_), fun q => ?_⟩
  · rw [e0, nI_cl (by omega), bP_0] at q
    exact fun w => q w.1
  · rw [e0, nI_cl (by omega), bP_n] at q
    refine sp_X6_contains hP (Or.inl ⟨rfl, rfl, rfl⟩) hs.1.2.1 ⟨fun w => qj hP (no ?_), fun w => ⟨hP, sp_X6_contains hP (Or.inl ⟨rfl, rfl, rfl⟩) hs.1.2.1 ⟨fun w2 => ⟨hP, ?_⟩, fun w2 => qj hP (no ?_)⟩⟩⟩
    · rw [bP_0, po_in hN] at w
      exact fun k => w k.2.1
    · rw [bP_n, po_in hN] at w w2
      obtain ⟨p, hp, rfl⟩ := vp_nI q (by omega)
      obtain ⟨v, hv, rfl, pv⟩ := w
      obtain ⟨u, hu, rfl, pu⟩ := w2
      have mdl : ∀ r, r = bP (vLike I p v u) → zMi zm_X12_like (d + 1) [.ref 160, .int (nI p), .int (nI v), .int (nI u)] I L P (q2 r) := by
        intro r hr
        refine sp_X12_like hP hE (by omega) (fun k => absurd ⟨nx_in hp (by omega), ⟨v, hv, rfl, pv⟩, ⟨u, hu, rfl, pu⟩⟩ k) (fun q' v' u' hq hv' hu' e1 e2 e3 p1 p2 => ?_)
        rw [← (nI_eq (by omega) (by omega)).mp e1, ← (nI_eq (by omega) (by omega)).mp e2, ← (nI_eq (by omega) (by omega)).mp e3, ← hr]
        exact q2_s h
      have c1 := hs.1.2.2.2.2.2.2 p hp v (lP_mem.mpr ⟨hv, pv⟩)
      have c2 := hs.1.2.2.2.2.2.2 p hp u (lP_mem.mpr ⟨hu, pu⟩)
      have key : (I (74 + 2 + p) v = I (74 + 2 + p) u) ↔ vLike I p v u := by
        rw [c1.2, c2.2, nI_eq (by omega) (by omega), ← hs.2.1 p hp v u hv hu pv pu]
        exact eq_comm
      refine sp_X10_areAlike hP (Or.inl rfl) (by omega) (by omega) (by omega) (by omega) ⟨fun k => qj hP (mdl 0 ?_), fun k => qj hP (mdl 1 ?_)⟩
      · rw [bP_0, key] at k; rw [bP_f k]
      · rw [bP_n, key] at k; rw [bP_t k]
    · rw [bP_0, po_in hN] at w2
      exact fun k => w2 k.2.2
abbrev gw_X11_own (d : Nat) (Q : zQt) (pc : Nat) (lv : zV) (st : List Value) (I : zI) (L : zL) (P : zP) : Prop := zW zm_X11_own (zRm d 0 0) 0 0 Q pc lv st I L P 205 0 0
abbrev v_X11_own (d : Nat) (Q : zQt) (p1 : Int32) (I : zI) (L : zL) (P : zP) : Prop :=
  ∃ b1 : Nat, P 0 2 = some b1 ∧
  (b1 < 205 ∧ (zsh b1).1 = 2) ∧
  il b1 ∧
  vp_in (I b1 0) 9 ∧
  (((bP (vp_in p1 (I b1 0).toNatClampNeg)) = 0 →
    Q (some (.int (-1))) I L P 205
  ) ∧ (¬ (bP (vp_in p1 (I b1 0).toNatClampNeg)) = 0 →
    zMi zm_X4_ownMark d [.ref 23, .ref 73, .int p1] I L P (fun r13 I9 L10 P11 =>
      Q (some (.int r13)) I9 L10 P11 205
    )
  ))
set_option maxRecDepth 20000 in
theorem g_X11_own {d : Nat} {Q : zQt} {p1 : Int32} {I : zI} {L : zL} {P : zP} (hP : zPk P) (hv : v_X11_own d Q p1 I L P) : zM zm_X11_own (d + 1) 0 0 [.ref 0, .int p1] I L P 205 Q := by
  unfold v_X11_own at hv
  refine zM_of (lv0 := [some (.ref 0), some (.int p1)]) (by decide +kernel) (Nat.le_of_ble_eq_true rfl) rfl ?_
  refine z_aload_n dX11_own_0 rfl ?_
  obtain ⟨b1, h2, hv⟩ := hv
  refine z_getP dX11_own_1 zf_X11_26 zn_0 zo_0 (fun _ _ _ _ _ => rfl) h2 ?_
  refine z_iload_n dX11_own_4 rfl ?_
  obtain ⟨h3, hv⟩ := hv
  obtain ⟨h4, hv⟩ := hv
  obtain ⟨h5, hv⟩ := hv
  refine z_callV (As := [.int p1]) (st := []) dX11_own_5 zl_X11_127 zv_X2_isPerson (by decide) rfl h3.1 h3.2 rfl rfl (Nat.le_of_ble_eq_true rfl) ⟨Nat.le_refl _, Nat.le_refl _⟩ ⟨Nat.le_refl _, Nat.le_refl _⟩ (sp_X2_isPerson hP h4 h5 (K := fun r I' L' P' => bP (vp_in p1 (I b1 0).toNatClampNeg) = r ∧ I = I' ∧ L = L' ∧ P = P') ⟨rfl, rfl, rfl, rfl⟩) (fun v1 I2 L2 P2 nx1 q7 => ?_)
  obtain ⟨rfl, r6, rfl, rfl, rfl, rfl, rfl⟩ := q7
  refine z_if_eq (tgt := 26) dX11_own_8 (by decide) (fun q8 => ?_) (fun q8 => ?_)
  · have hv := hv.1 q8
    refine z_iconst (v := (-1)) dX11_own_26 (by decide) ?_
    exact z_ireturn dX11_own_27 rfl rfl (Nat.le_refl _) (Nat.le_refl _) hv
  · have hv := hv.2 q8
    refine z_aload_n dX11_own_11 rfl ?_
    refine z_getP dX11_own_12 zf_X11_45 zn_0 zo_0 (fun _ _ _ _ _ => rfl) (hP 0 5 23 zp_0_5) ?_
    refine z_aload_n dX11_own_15 rfl ?_
    refine z_getP dX11_own_16 zf_X11_57 zn_0 zo_0 (fun _ _ _ _ _ => rfl) (hP 0 6 73 zp_0_6) ?_
    refine z_iload_n dX11_own_19 rfl ?_
    refine z_callV (As := [.ref 73, .int p1]) (st := []) dX11_own_20 zl_X11_146 zv_X4_ownMark (by decide) rfl zn_23 zo_23 rfl rfl (Nat.le_of_ble_eq_true rfl) ⟨Nat.le_refl _, Nat.le_refl _⟩ ⟨Nat.le_refl _, Nat.le_refl _⟩ hv (fun v1 I9 L10 P11 nx1 q12 => ?_)
    obtain ⟨rfl, r13, rfl, hv⟩ := q12
    refine z_goto (tgt := 27) dX11_own_23 (by decide) ?_
    exact z_ireturn dX11_own_27 rfl rfl (Nat.le_refl _) (Nat.le_refl _) hv
theorem q_own {x : Int32} (h : Rl I I L P t st b cd) (hd : 4 ≤ d) : zMi zm_X11_own d [.ref 0, .int x] I L P (fun r I1 L1 P1 => zPk P1 ∧ zMi zm_X12_own d [.ref 160, .int x] I1 L1 P1 (q2 r)) := by
  obtain ⟨d, rfl⟩ : ∃ e, d = e + 1 := ⟨d - 1, by omega⟩
  have hP := h.1.1
  obtain ⟨e0, h8, hi⟩ := Rl_t0 h
  obtain ⟨b1, -⟩ := il_P hi hP
  have hS := h.2.1.1
  have hE := hS.1
  have hT := hS.2.1
  have hN := vN_le hE.1
  have hR := h.2.2.1.1
  obtain ⟨g, hs, -⟩ := h.2.2.2.2.2.1
  refine g_X11_own hP ⟨t, h.1.2.1, b1, hi, by rw [e0]; exact nx_in (by omega) (by decide), fun q => qj hP (sp_X12_own hP hE hT (by omega) (fun _ => q2_s h) (fun v hv ev => ?_)), fun q => ?_⟩
  · rw [e0, nI_cl (by omega), bP_0] at q
    exact absurd (by rw [ev]; exact nx_in hv (by omega)) q
  · rw [e0, nI_cl (by omega), bP_n] at q
    obtain ⟨p, hp, rfl⟩ := vp_nI q (by omega)
    refine sp_X4_ownMark (N := vN I) hP (Or.inl ⟨rfl, rfl, rfl⟩) (by omega) hs.1.2.1 hs.1.2.2.2.1 (hs.1.2.2.2.2.2.2 p hp) hs.1.2.2.2.2.1 hi hR.2.1 (lP_mem.mpr ⟨hT.1, hs.2.2.2⟩) (by omega) (fun I1 f => ?_)
    have em : eM I I1 := fun a ha => f a (by simp only [List.mem_cons, List.not_mem_nil, or_false]; omega)
    have h1 := Rl_q (I' := I1) (L' := L) (P' := P) h (fun a ha => f a (by unfold kC at ha; simp only [List.mem_cons, List.not_mem_nil, or_false]; omega)) (by rw [f 17 (by decide)]; exact ⟨rfl, rfl⟩) (gK_c h.2.2.2.2.2.2.2.2.1 hS.2.2.1.1 (fun a a1 a2 => f a (by simp only [List.mem_cons, List.not_mem_nil, or_false]; omega))) (fun _ _ => rfl) hP (fun _ _ _ => rfl)
    refine qj hP (sp_X12_own hP h1.2.1.1.1 h1.2.1.1.2.1 (by omega) (fun z => absurd (by rw [eM_np em]; exact nx_in hp (by omega)) z) (fun v hv ev => ?_))
    rw [← (nI_eq (by omega) (by rw [eM_np em] at hv; omega)).mp ev, eM_n em, eM_po em, eM_lk em, eM_tw em]
    have ag : ∀ bb, sHas (vN I) (xo (lP (vPoss I) (vN I))) (gk g p) p (vTw I) bb ↔ sHas (vN I) (vPoss I) (vLike I p) p (vTw I) bb := fun bb => sHas_ag (fun u hu => sV_po hu) (fun u hu xu => sV_ag hs.2.1 p (vTw I) u hp hT.1 hu ((sV_po hT.1).mpr hs.2.2.2) xu)
    have e : sOw (vN I) (xo (lP (vPoss I) (vN I))) (gk g) (vTw I) p = sOw (vN I) (vPoss I) (vLike I) (vTw I) p := by
      unfold sOw
      rw [propext (ag true), propext (ag false)]
    rw [e]
    exact q2_s h1
abbrev gw_X11_about (d : Nat) (Q : zQt) (pc : Nat) (lv : zV) (st : List Value) (I : zI) (L : zL) (P : zP) : Prop := zW zm_X11_about (zRm d 0 0) 0 0 Q pc lv st I L P 205 0 0
abbrev v_X11_about (d : Nat) (Q : zQt) (p1 : Int32) (I : zI) (L : zL) (P : zP) : Prop :=
  (p1 = 0 →
    ∃ b1 : Nat, P 0 2 = some b1 ∧
    (b1 < 205 ∧ (zsh b1).1 = 2) ∧
    Q (some (.int (I b1 0))) I L P 205
  ) ∧
  (p1 = 1 →
    ∃ b4 : Nat, P 0 2 = some b4 ∧
    (b4 < 205 ∧ (zsh b4).1 = 2) ∧
    Q (some (.int (I b4 4))) I L P 205
  ) ∧
  (p1 = 2 →
    ∃ b7 : Nat, P 0 2 = some b7 ∧
    (b7 < 205 ∧ (zsh b7).1 = 2) ∧
    Q (some (.int (I b7 1))) I L P 205
  ) ∧
  (p1 = 3 →
    Q (some (.int (I 73 5))) I L P 205
  ) ∧
  (p1 = 4 →
    Q (some (.int (I 73 6))) I L P 205
  ) ∧
  (p1 = 5 →
    Q (some (.int (I 90 5))) I L P 205
  ) ∧
  (p1 = 6 →
    Q (some (.int (I 90 6))) I L P 205
  ) ∧
  (p1 = 7 →
    Q (some (.int (I 1 1))) I L P 205
  ) ∧
  (p1 = 8 →
    ∃ b10 : Nat, P 0 2 = some b10 ∧
    (b10 < 205 ∧ (zsh b10).1 = 2) ∧
    Q (some (.int (I b10 5))) I L P 205
  ) ∧
  (¬ p1 = 0 → ¬ p1 = 1 → ¬ p1 = 2 → ¬ p1 = 3 → ¬ p1 = 4 → ¬ p1 = 5 → ¬ p1 = 6 → ¬ p1 = 7 → ¬ p1 = 8 →
    Q (some (.int (-1))) I L P 205
  )
set_option maxRecDepth 20000 in
theorem g_X11_about {d : Nat} {Q : zQt} {p1 : Int32} {I : zI} {L : zL} {P : zP} (hP : zPk P) (hv : v_X11_about d Q p1 I L P) : zM zm_X11_about d 0 0 [.ref 0, .int p1] I L P 205 Q := by
  unfold v_X11_about at hv
  refine zM_of (lv0 := [some (.ref 0), some (.int p1)]) (by decide +kernel) (Nat.le_of_ble_eq_true rfl) rfl ?_
  refine z_iload_n dX11_about_0 rfl ?_
  by_cases q13 : p1 = 0
  · have hv := hv.1 q13
    refine z_tableIn (off := 51) (tgt := 52) dX11_about_1 (by rw [q13]; decide) (by rw [q13]; decide) (by rw [q13]; decide) (by decide) ?_
    refine z_aload_n dX11_about_52 rfl ?_
    obtain ⟨b1, h2, hv⟩ := hv
    refine z_getP dX11_about_53 zf_X11_26 zn_0 zo_0 (fun _ _ _ _ _ => rfl) h2 ?_
    obtain ⟨h3, hv⟩ := hv
    refine z_getI dX11_about_56 zf_X11_118 h3.1 h3.2 (fun _ _ _ _ _ => rfl) ?_
    exact z_ireturn dX11_about_59 rfl rfl (Nat.le_refl _) (Nat.le_refl _) hv
  by_cases q14 : p1 = 1
  · have hv := hv.2.1 q14
    refine z_tableIn (off := 59) (tgt := 60) dX11_about_1 (by rw [q14]; decide) (by rw [q14]; decide) (by rw [q14]; decide) (by decide) ?_
    refine z_aload_n dX11_about_60 rfl ?_
    obtain ⟨b4, h5, hv⟩ := hv
    refine z_getP dX11_about_61 zf_X11_26 zn_0 zo_0 (fun _ _ _ _ _ => rfl) h5 ?_
    obtain ⟨h6, hv⟩ := hv
    refine z_getI dX11_about_64 zf_X11_173 h6.1 h6.2 (fun _ _ _ _ _ => rfl) ?_
    exact z_ireturn dX11_about_67 rfl rfl (Nat.le_refl _) (Nat.le_refl _) hv
  by_cases q15 : p1 = 2
  · have hv := hv.2.2.1 q15
    refine z_tableIn (off := 67) (tgt := 68) dX11_about_1 (by rw [q15]; decide) (by rw [q15]; decide) (by rw [q15]; decide) (by decide) ?_
    refine z_aload_n dX11_about_68 rfl ?_
    obtain ⟨b7, h8, hv⟩ := hv
    refine z_getP dX11_about_69 zf_X11_26 zn_0 zo_0 (fun _ _ _ _ _ => rfl) h8 ?_
    obtain ⟨h9, hv⟩ := hv
    refine z_getI dX11_about_72 zf_X11_158 h9.1 h9.2 (fun _ _ _ _ _ => rfl) ?_
    exact z_ireturn dX11_about_75 rfl rfl (Nat.le_refl _) (Nat.le_refl _) hv
  by_cases q16 : p1 = 3
  · have hv := hv.2.2.2.1 q16
    refine z_tableIn (off := 75) (tgt := 76) dX11_about_1 (by rw [q16]; decide) (by rw [q16]; decide) (by rw [q16]; decide) (by decide) ?_
    refine z_aload_n dX11_about_76 rfl ?_
    refine z_getP dX11_about_77 zf_X11_57 zn_0 zo_0 (fun _ _ _ _ _ => rfl) (hP 0 6 73 zp_0_6) ?_
    refine z_getI dX11_about_80 zf_X11_190 zn_73 zo_73 (fun _ _ _ _ _ => rfl) ?_
    exact z_ireturn dX11_about_83 rfl rfl (Nat.le_refl _) (Nat.le_refl _) hv
  by_cases q17 : p1 = 4
  · have hv := hv.2.2.2.2.1 q17
    refine z_tableIn (off := 83) (tgt := 84) dX11_about_1 (by rw [q17]; decide) (by rw [q17]; decide) (by rw [q17]; decide) (by decide) ?_
    refine z_aload_n dX11_about_84 rfl ?_
    refine z_getP dX11_about_85 zf_X11_57 zn_0 zo_0 (fun _ _ _ _ _ => rfl) (hP 0 6 73 zp_0_6) ?_
    refine z_getI dX11_about_88 zf_X11_183 zn_73 zo_73 (fun _ _ _ _ _ => rfl) ?_
    exact z_ireturn dX11_about_91 rfl rfl (Nat.le_refl _) (Nat.le_refl _) hv
  by_cases q18 : p1 = 5
  · have hv := hv.2.2.2.2.2.1 q18
    refine z_tableIn (off := 91) (tgt := 92) dX11_about_1 (by rw [q18]; decide) (by rw [q18]; decide) (by rw [q18]; decide) (by decide) ?_
    refine z_aload_n dX11_about_92 rfl ?_
    refine z_getP dX11_about_93 zf_X11_79 zn_0 zo_0 (fun _ _ _ _ _ => rfl) (hP 0 10 90 zp_0_10) ?_
    refine z_getI dX11_about_96 zf_X11_111 zn_90 zo_90 (fun _ _ _ _ _ => rfl) ?_
    exact z_ireturn dX11_about_99 rfl rfl (Nat.le_refl _) (Nat.le_refl _) hv
  by_cases q19 : p1 = 6
  · have hv := hv.2.2.2.2.2.2.1 q19
    refine z_tableIn (off := 99) (tgt := 100) dX11_about_1 (by rw [q19]; decide) (by rw [q19]; decide) (by rw [q19]; decide) (by decide) ?_
    refine z_aload_n dX11_about_100 rfl ?_
    refine z_getP dX11_about_101 zf_X11_79 zn_0 zo_0 (fun _ _ _ _ _ => rfl) (hP 0 10 90 zp_0_10) ?_
    refine z_getI dX11_about_104 zf_X11_238 zn_90 zo_90 (fun _ _ _ _ _ => rfl) ?_
    exact z_ireturn dX11_about_107 rfl rfl (Nat.le_refl _) (Nat.le_refl _) hv
  by_cases q20 : p1 = 7
  · have hv := hv.2.2.2.2.2.2.2.1 q20
    refine z_tableIn (off := 107) (tgt := 108) dX11_about_1 (by rw [q20]; decide) (by rw [q20]; decide) (by rw [q20]; decide) (by decide) ?_
    refine z_aload_n dX11_about_108 rfl ?_
    refine z_getP dX11_about_109 zf_X11_10 zn_0 zo_0 (fun _ _ _ _ _ => rfl) (hP 0 0 1 zp_0_0) ?_
    refine z_getI dX11_about_112 zf_X11_103 zn_1 zo_1 (fun _ _ _ _ _ => rfl) ?_
    exact z_ireturn dX11_about_115 rfl rfl (Nat.le_refl _) (Nat.le_refl _) hv
  by_cases q21 : p1 = 8
  · have hv := hv.2.2.2.2.2.2.2.2.1 q21
    refine z_tableIn (off := 115) (tgt := 116) dX11_about_1 (by rw [q21]; decide) (by rw [q21]; decide) (by rw [q21]; decide) (by decide) ?_
    refine z_aload_n dX11_about_116 rfl ?_
    obtain ⟨b10, h11, hv⟩ := hv
    refine z_getP dX11_about_117 zf_X11_26 zn_0 zo_0 (fun _ _ _ _ _ => rfl) h11 ?_
    obtain ⟨h12, hv⟩ := hv
    refine z_getI dX11_about_120 zf_X11_241 h12.1 h12.2 (fun _ _ _ _ _ => rfl) ?_
    exact z_ireturn dX11_about_123 rfl rfl (Nat.le_refl _) (Nat.le_refl _) hv
  have hv := hv.2.2.2.2.2.2.2.2.2 q13 q14 q15 q16 q17 q18 q19 q20 q21
  have tq13 := lv_neT q13 (show (0 : Int32).toInt = 0 by decide)
  have tq14 := lv_neT q14 (show (1 : Int32).toInt = 1 by decide)
  have tq15 := lv_neT q15 (show (2 : Int32).toInt = 2 by decide)
  have tq16 := lv_neT q16 (show (3 : Int32).toInt = 3 by decide)
  have tq17 := lv_neT q17 (show (4 : Int32).toInt = 4 by decide)
  have tq18 := lv_neT q18 (show (5 : Int32).toInt = 5 by decide)
  have tq19 := lv_neT q19 (show (6 : Int32).toInt = 6 by decide)
  have tq20 := lv_neT q20 (show (7 : Int32).toInt = 7 by decide)
  have tq21 := lv_neT q21 (show (8 : Int32).toInt = 8 by decide)
  refine z_tableOut (tgt := 124) dX11_about_1 (by omega) (by decide) ?_
  refine z_iconst (v := (-1)) dX11_about_124 (by decide) ?_
  exact z_ireturn dX11_about_125 rfl rfl (Nat.le_refl _) (Nat.le_refl _) hv
theorem q_about {x : Int32} (h : Rl I I L P t st b cd) (hd : 2 ≤ d) : zMi zm_X11_about d [.ref 0, .int x] I L P (fun r I1 L1 P1 => zPk P1 ∧ zMi zm_X12_about d [.ref 160, .int x] I1 L1 P1 (q2 r)) := by
  have hP := h.1.1
  obtain ⟨e0, h8, hi⟩ := Rl_t0 h
  obtain ⟨b1, -⟩ := il_P hi hP
  have hS := h.2.1.1
  have hR := h.2.2.1
  obtain ⟨g, hs⟩ := h.2.2.2.2.2.1
  have mdl : ∀ r, r = aAb I x → zMi zm_X12_about d [.ref 160, .int x] I L P (q2 r) := fun r hr => sp_X12_about hP hS hd (by rw [← hr]; exact q2_s h)
  have ht := h.1.2.1
  have hm := h.2.1
  refine g_X11_about hP ⟨fun q => ⟨t, ht, b1, qj hP (mdl _ ?_)⟩, fun q => ⟨t, ht, b1, qj hP (mdl _ ?_)⟩, fun q => ⟨t, ht, b1, qj hP (mdl _ ?_)⟩, fun q => qj hP (mdl _ ?_), fun q => qj hP (mdl _ ?_), fun q => qj hP (mdl _ ?_), fun q => qj hP (mdl _ ?_), fun q => qj hP (mdl _ ?_), fun q => ⟨t, ht, b1, qj hP (mdl _ ?_)⟩, fun q0 q1 q2 q3 q4 q5 q6 q7 q8 => qj hP (mdl _ ?_)⟩
  · subst q; exact e0
  · subst q; exact hR.1.2.2.2.2.2.1.1
  · subst q; exact hR.1.2.1
  · subst q; exact hs.2.1
  · subst q; exact hs.2.2.1
  · subst q
    show I 90 5 = I 160 59
    rw [h.2.2.2.2.2.2.2.1.1.2, hm.2.2.2.1.2.1]
  · subst q; exact h.2.2.2.2.2.2.2.1.2.1
  · subst q
    show I 1 1 = I 160 2
    rw [h.2.2.2.1.2.1, hm.2.2.1.2.1]
  · subst q
    show I t 5 = I 166 (vB I)
    exact hR.2.1
  · unfold aAb
    rw [if_neg q0, if_neg q1, if_neg q2, if_neg q3, if_neg q4, if_neg q5, if_neg q6, if_neg q7, if_neg q8]
/-- the class's cells stay -/
theorem Rl_st {M I' : zI} (h : Rl M I L P t st b cd) (hf : ∀ a, a < 160 → I' a = I a) : Rl M I' L P t st b cd :=
  Rl_cl h (fun a ha => hf a (by unfold kC at ha; omega)) (by rw [hf 17 (by decide)]; exact ⟨rfl, rfl⟩) (gK_c h.2.2.2.2.2.2.2.2.1 h.2.1.1.2.2.1.1 (fun a a1 a2 => hf a (by omega))) (fun _ _ => rfl) h.1.1 (fun _ _ _ => rfl)
theorem Rl_rs {I' : zI} (h : Rl I I L P t st b cd) (hr : rSm I I') : Rl I' I' L P t st b cd :=
  Rl_st (Rl_rSm h hr) (fun a ha => hr.1.1 a (by simp only [List.mem_cons, List.not_mem_nil, or_false]; omega) (by omega))
/-- behind calls that only look -/
theorem q_when {x : Int32} (h : Rl I I L P t st b cd) (hd : 6 ≤ d) : zMi zm_X11_when d [.ref 0, .int x] I L P (fun r I1 L1 P1 => zPk P1 ∧ zMi zm_X12_when d [.ref 160, .int x] I1 L1 P1 (q2 r)) := by
  have hP := h.1.1
  have hS := h.2.1.1
  have hR := h.2.2.1.1
  obtain ⟨g, hs, -⟩ := h.2.2.2.2.2.1
  refine sp_X11_when hP hS.2.1 h.1.2.1 hR hs (by omega) (fun z => ⟨hP, sp_X12_when hP hS hd (fun _ => q2_s h) (fun v hv e gv => absurd ⟨v, hv, e, gv⟩ z)⟩) (fun v hv e gv I1 f => ?_)
  have em : eM I I1 := fun a ha => f a (by simp only [List.mem_cons, List.not_mem_nil, or_false]; omega)
  have hP1 : zPk (zuP P 86 1 (some t)) := zPk_u (zst_s1 (Or.inr (Or.inl ⟨rfl, rfl, rfl⟩))) hP
  have h1 := Rl_q (I' := I1) (L' := L) (P' := zuP P 86 1 (some t)) h (fun a ha => f a (by unfold kC at ha; simp only [List.mem_cons, List.not_mem_nil, or_false]; omega)) (by rw [f 17 (by decide)]; exact ⟨rfl, rfl⟩) (gK_c h.2.2.2.2.2.2.2.2.1 hS.2.2.1.1 (fun a a1 a2 => f a (by simp only [List.mem_cons, List.not_mem_nil, or_false]; omega))) (fun _ _ => rfl) hP1 (fun a k ha => by rw [zuP_ne (by omega)])
  refine ⟨hP1, sp_X12_when hP1 h1.2.1.1 hd (fun z => absurd ⟨v, by rw [eM_np em]; exact hv, e, by rw [eM_gn em]; exact gv⟩ z) (fun v' hv' e' gv' I2 r2 => ?_)⟩
  have : v' = v := ((nI_eq (by have := (Rl_t0 h).2.1; omega) (by have := (Rl_t0 h1).2.1; omega)).mp (e.symm.trans e')).symm
  subst this
  rw [eM_po em, eM_gn em, aWh_c (eM_gs em) (eM_n em) (eM_tw em)]
  exact q2_s (Rl_rs h1 r2)
theorem q_fewest {x y : Int32} (h : Rl I I L P t st b cd) (hd : 10 ≤ d) : zMi zm_X11_fewest d [.ref 0, .int x, .int y] I L P (fun r I1 L1 P1 => zPk P1 ∧ zMi zm_X12_fewest d [.ref 160, .int x, .int y] I1 L1 P1 (q2 r)) := by
  have hP := h.1.1
  have hS := h.2.1.1
  have hR := h.2.2.1.1
  have hN := vN_le hS.1.1
  obtain ⟨g, hs, -⟩ := h.2.2.2.2.2.1
  refine sp_X11_fewest hP hS.1.1 hS.2.2.1 hS.2.1 h.1.2.1 hR hs (by omega) (fun z => ⟨hP, sp_X12_fewest hP hS hd (fun _ => q2_s h) (fun a n a1 a2 a3 a4 a5 => absurd ⟨a, n, a1, a2, a3, a4, a5⟩ z)⟩) (fun a n a1 a2 a3 a4 a5 r I1 L1 P1 f fl fp hr => ?_)
  have em : eM I I1 := fun c hc => f c (by omega)
  have hP1 : zPk P1 := fun c k q hq => by
    by_cases e : c = 86 ∧ k = 1
    · obtain ⟨rfl, rfl⟩ := e
      rw [zst_s1 (Or.inr (Or.inl ⟨rfl, rfl, rfl⟩))] at hq
      cases hq
    · rw [fp c k e]; exact hP c k q hq
  have h1 := Rl_q (I' := I1) (L' := L1) (P' := P1) h (fun c hc => f c (by unfold kC at hc; omega)) (by rw [f 17 (by decide)]; exact ⟨rfl, rfl⟩) (gK_c h.2.2.2.2.2.2.2.2.1 hS.2.2.1.1 (fun c c1 c2 => f c (by omega))) (fun c hc => fl c (by simp only [List.mem_cons, List.not_mem_nil, or_false]; omega)) hP1 (fun c k hc => fp c k (by omega))
  refine ⟨hP1, sp_X12_fewest hP1 h1.2.1.1 hd (fun z => absurd ⟨a, n, by rw [eM_n em]; exact a1, a2, a3, a4, a5⟩ z) (fun a' n' b1 b2 b3 b4 b5 I2 r' r2 hr' => ?_)⟩
  rw [eM_n em] at b1
  have ea : a' = a := ((nI_eq (by omega) (by omega)).mp (a4.symm.trans b4)).symm
  have en : n' = n := ((nI_eq (by omega) (by omega)).mp (a5.symm.trans b5)).symm
  subst ea
  subst en
  rw [eM_po em, eM_gn em, eM_ns em] at hr'
  have e : (fun s => aGb I1 s n' (vPoss I) (vGn I) = nI a') = (fun s => aGb I s n' (vPoss I) (vGn I) = nI a') := by funext s; rw [eM_gb em]
  rw [e] at hr'
  have : r' = r := fBs_u hr' hr
  subst this
  exact q2_s (Rl_rs h1 r2)
end QB
