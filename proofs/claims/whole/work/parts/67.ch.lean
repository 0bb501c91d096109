/-! ===== the class: what hangs together ===== -/
abbrev gw_X4_rootOf (d : Nat) (Q : zQt) (pc : Nat) (lv : zV) (st : List Value) (I : zI) (L : zL) (P : zP) : Prop := zW zm_X4_rootOf (zRm d 0 0) 0 0 Q pc lv st I L P 205 0 0
abbrev v_X4_rootOf_4 (d : Nat) (Q : zQt) (x2 : Int32) (x3 : Int32) (I : zI) (L : zL) (P : zP) : Prop :=
  ((256 ≤ x3 →
    Q (some (.int x2)) I L P 205
  ) ∧ (¬ 256 ≤ x3 →
    vp_in x2 256 ∧
    (((I 71 x2.toNatClampNeg) = x2 →
      Q (some (.int x2)) I L P 205
    ) ∧ (¬ (I 71 x2.toNatClampNeg) = x2 →
      vp_in (I 71 x2.toNatClampNeg) 256 ∧
      ∀ I6 : zI, I6 = zuI I 71 x2.toNatClampNeg (I 71 (I 71 x2.toNatClampNeg).toNatClampNeg) →
      gw_X4_rootOf d Q 4 [some (.ref 23), none, some (.int (I6 71 x2.toNatClampNeg)), some (.int (x3 + 1))] [] I6 L P
    ))
  ))
set_option maxRecDepth 20000 in
theorem g_X4_rootOf_4 {d : Nat} {Q : zQt} {x2 : Int32} {x3 : Int32} {I : zI} {L : zL} {P : zP} (hP : zPk P) (hv : v_X4_rootOf_4 d Q x2 x3 I L P) : gw_X4_rootOf d Q 4 [some (.ref 23), none, some (.int x2), some (.int x3)] [] I L P := by
  unfold v_X4_rootOf_4 at hv
  refine z_iload_n dX4_rootOf_4 rfl ?_
  refine z_sipush (v := 256) dX4_rootOf_5 (by decide) ?_
  refine z_icmp_ge (tgt := 51) dX4_rootOf_8 (by decide) (fun q1 => ?_) (fun q1 => ?_)
  · have hv := hv.1 q1
    refine z_iload_n dX4_rootOf_51 rfl ?_
    exact z_ireturn dX4_rootOf_52 rfl rfl (Nat.le_refl _) (Nat.le_refl _) hv
  · have hv := hv.2 q1
    refine z_aload_n dX4_rootOf_11 rfl ?_
    refine z_getP dX4_rootOf_12 zf_X4_25 zn_23 zo_23 (fun _ _ _ _ _ => rfl) (hP 23 3 71 zp_23_3) ?_
    refine z_iload_n dX4_rootOf_15 rfl ?_
    obtain ⟨h2, hv⟩ := hv
    refine z_iaload dX4_rootOf_16 zn_71 zh_71 h2 ?_
    refine z_iload_n dX4_rootOf_17 rfl ?_
    refine z_icmp_eq (tgt := 51) dX4_rootOf_18 (by decide) (fun q3 => ?_) (fun q3 => ?_)
    · have hv := hv.1 q3
      refine z_iload_n dX4_rootOf_51 rfl ?_
      exact z_ireturn dX4_rootOf_52 rfl rfl (Nat.le_refl _) (Nat.le_refl _) hv
    · have hv := hv.2 q3
      refine z_aload_n dX4_rootOf_21 rfl ?_
      refine z_getP dX4_rootOf_22 zf_X4_25 zn_23 zo_23 (fun _ _ _ _ _ => rfl) (hP 23 3 71 zp_23_3) ?_
      refine z_iload_n dX4_rootOf_25 rfl ?_
      refine z_aload_n dX4_rootOf_26 rfl ?_
      refine z_getP dX4_rootOf_27 zf_X4_25 zn_23 zo_23 (fun _ _ _ _ _ => rfl) (hP 23 3 71 zp_23_3) ?_
      refine z_aload_n dX4_rootOf_30 rfl ?_
      refine z_getP dX4_rootOf_31 zf_X4_25 zn_23 zo_23 (fun _ _ _ _ _ => rfl) (hP 23 3 71 zp_23_3) ?_
      refine z_iload_n dX4_rootOf_34 rfl ?_
      refine z_iaload dX4_rootOf_35 zn_71 zh_71 h2 ?_
      obtain ⟨h4, hv⟩ := hv
      refine z_iaload dX4_rootOf_36 zn_71 zh_71 h4 ?_
      refine z_iastore dX4_rootOf_37 zn_71 zh_71 h2 (z_nmI (fun I6 e5 => ?_))
      have hv := hv I6 e5
      refine z_aload_n dX4_rootOf_38 rfl ?_
      refine z_getP dX4_rootOf_39 zf_X4_25 zn_23 zo_23 (fun _ _ _ _ _ => rfl) (hP 23 3 71 zp_23_3) ?_
      refine z_iload_n dX4_rootOf_42 rfl ?_
      refine z_iaload dX4_rootOf_43 zn_71 zh_71 h2 ?_
      refine z_istore_n (lv2 := [some (.ref 23), none, some (.int (I6 71 x2.toNatClampNeg)), some (.int x3)]) dX4_rootOf_44 (by decide) rfl rfl ?_
      refine z_iinc (v2 := x3 + 1) (lv2 := [some (.ref 23), none, some (.int (I6 71 x2.toNatClampNeg)), some (.int (x3 + 1))]) dX4_rootOf_45 rfl (by rfl) (by decide) rfl rfl ?_
      refine z_goto (tgt := 4) dX4_rootOf_48 (by decide) ?_
      exact hv
abbrev v_X4_rootOf (d : Nat) (Q : zQt) (p1 : Int32) (I : zI) (L : zL) (P : zP) : Prop :=
  gw_X4_rootOf d Q 4 [some (.ref 23), none, some (.int p1), some (.int 0)] [] I L P
set_option maxRecDepth 20000 in
theorem g_X4_rootOf {d : Nat} {Q : zQt} {p1 : Int32} {I : zI} {L : zL} {P : zP} (hP : zPk P) (hv : v_X4_rootOf d Q p1 I L P) : zM zm_X4_rootOf d 0 0 [.ref 23, .int p1] I L P 205 Q := by
  unfold v_X4_rootOf at hv
  refine zM_of (lv0 := [some (.ref 23), some (.int p1), none, none]) (by decide +kernel) (Nat.le_of_ble_eq_true rfl) rfl ?_
  refine z_iload_n dX4_rootOf_0 rfl ?_
  refine z_istore_n (lv2 := [some (.ref 23), some (.int p1), some (.int p1), none]) dX4_rootOf_1 (by decide) rfl rfl ?_
  refine z_iconst (v := 0) dX4_rootOf_2 (by decide) ?_
  refine z_istore_n (lv2 := [some (.ref 23), some (.int p1), some (.int p1), some (.int 0)]) dX4_rootOf_3 (by decide) rfl rfl ?_
  exact z_sub (by exact ⟨rfl, ⟨rfl, ⟨rfl, trivial⟩⟩⟩) hv
/-- labels: each hangs on a lesser one, or is a root -/
def uf (I : zI) (lb : Nat → Nat) : Prop := ∀ w, w < 256 → ∃ r, r ≤ w ∧ I 71 w = nI r ∧ lb r = lb w ∧ lb w ≤ w ∧ (r = w → lb w = w)
theorem uf_c {I I' : zI} {lb : Nat → Nat} (h : uf I lb) (e : I' 71 = I 71) : uf I' lb := by unfold uf; rw [e]; exact h
theorem lp_X4_rootOf {d : Nat} {Q : zQt} {I0 : zI} {L : zL} {P : zP} {lb : Nat → Nat} {w : Nat} (hP : zPk P) (kk : ∀ I, cFr [71] I0 I → uf I lb → Q (some (.int (nI (lb w)))) I L P 205) :
    ∀ a i I, a + i ≤ 255 → cFr [71] I0 I → uf I lb → lb a = lb w → gw_X4_rootOf d Q 4 [some (.ref 23), none, some (.int (nI a)), some (.int (nI i))] [] I L P := by
  intro a
  induction a using Nat.strongRecOn with
  | ind a ih =>
    intro i I ha hf hu hl
    obtain ⟨r, r1, r2, r3, r4, r5⟩ := hu a (by omega)
    have ca : (nI a).toNatClampNeg = a := nI_cl (by omega)
    refine g_X4_rootOf_4 hP ⟨fun q => absurd q (by rw [show (256 : Int32) = nI 256 from rfl]; exact nI_ge (by omega) (by decide)), fun _ => ⟨nx_in (by omega) (by decide), fun q => ?_, fun q => ?_⟩⟩
    · rw [ca, r2, nI_eq (by omega) (by omega)] at q
      have := r5 q
      rw [this] at hl
      rw [hl]
      exact kk I hf hu
    · rw [ca, r2, nI_eq (by omega) (by omega)] at q
      rw [ca, r2]
      refine ⟨nx_in (by omega) (by decide), fun I1 e1 => ?_⟩
      obtain ⟨z, z1, z2, z3, z4, z5⟩ := hu r (by omega)
      rw [nI_cl (by omega), z2] at e1
      have e2 : I1 71 a = nI z := by rw [e1, zuI_v]
      rw [e2, nI_1]
      subst e1
      refine ih z (by omega) (i + 1) _ (by omega) (cFr_c hf (by simp)) (fun u hu2 => ?_) (by rw [z3, r3, hl])
      by_cases e : u = a
      · subst e
        exact ⟨z, by omega, zuI_v _ _ _ _, by rw [z3, r3], r4, fun e => by omega⟩
      · rw [zuI_o e]; exact hu u hu2
theorem sp_X4_rootOf {d : Nat} {I : zI} {L : zL} {P : zP} {lb : Nat → Nat} {w : Nat} (hP : zPk P) (hw : w < 256) (hu : uf I lb) {K : Int32 → zI → zL → zP → Prop} (kk : ∀ I', cFr [71] I I' → uf I' lb → K (nI (lb w)) I' L P) : zMi zm_X4_rootOf d [.ref 23, .int (nI w)] I L P K :=
  g_X4_rootOf hP (lp_X4_rootOf hP (fun I' a b => qi (kk I' a b)) w 0 I (by omega) (cFr_rf _ _) hu rfl)
theorem uf_lt {I : zI} {lb : Nat → Nat} {w : Nat} (h : uf I lb) (hw : w < 256) : lb w < 256 ∧ lb (lb w) = lb w := by
  induction w using Nat.strongRecOn with
  | ind w ih =>
    obtain ⟨r, r1, r2, r3, r4, r5⟩ := h w hw
    refine ⟨by omega, ?_⟩
    by_cases e : r = w
    · rw [r5 e, r5 e]
    · have := (ih r (by omega) (by omega)).2
      rw [r3] at this
      exact this
/-- two parts become one -/
def uni (lb : Nat → Nat) (a b : Nat) : Nat → Nat := fun u => if lb u = max (lb a) (lb b) then min (lb a) (lb b) else lb u
theorem uni_e {lb : Nat → Nat} {a b u w : Nat} (h : lb u = lb w) : uni lb a b u = uni lb a b w := by unfold uni; rw [h]
theorem uni_ab (lb : Nat → Nat) (a b : Nat) : uni lb a b a = uni lb a b b := by
  unfold uni
  by_cases h : lb a ≤ lb b
  · rw [Nat.max_eq_right h, Nat.min_eq_left h, if_pos rfl]
    split <;> omega
  · rw [Nat.max_eq_left (by omega), Nat.min_eq_right (by omega), if_pos rfl]
    split <;> omega
theorem uni_i {lb : Nat → Nat} {a b u w : Nat} (h : uni lb a b u = uni lb a b w) (hi : ∀ x, x = lb a ∨ x = lb b → True) : lb u = lb w ∨ ((lb u = lb a ∨ lb u = lb b) ∧ (lb w = lb a ∨ lb w = lb b)) := by
  unfold uni at h
  by_cases h1 : lb u = max (lb a) (lb b) <;> by_cases h2 : lb w = max (lb a) (lb b)
  · left; omega
  · rw [if_pos h1, if_neg h2] at h; right; omega
  · rw [if_neg h1, if_pos h2] at h; right; omega
  · rw [if_neg h1, if_neg h2] at h; left; exact h
theorem uf_uni {I : zI} {lb : Nat → Nat} {a b : Nat} (h : uf I lb) (ha : a < 256) (hb : b < 256) : uf (zuI I 71 (max (lb a) (lb b)) (nI (min (lb a) (lb b)))) (uni lb a b) := by
  have la := uf_lt h ha
  have lb' := uf_lt h hb
  intro w hw
  obtain ⟨r, r1, r2, r3, r4, r5⟩ := h w hw
  have u4 : uni lb a b w ≤ w := by unfold uni; split <;> omega
  by_cases e : w = max (lb a) (lb b)
  · subst e
    refine ⟨min (lb a) (lb b), by omega, zuI_v _ _ _ _, ?_, u4, ?_⟩
    · by_cases hab : lb a ≤ lb b
      · rw [Nat.min_eq_left hab, Nat.max_eq_right hab, uni_e (lb := lb) (u := lb a) (w := a) la.2, uni_e (lb := lb) (u := lb b) (w := b) lb'.2]
        exact uni_ab lb a b
      · rw [Nat.min_eq_right (by omega), Nat.max_eq_left (by omega), uni_e (lb := lb) (u := lb a) (w := a) la.2, uni_e (lb := lb) (u := lb b) (w := b) lb'.2]
        exact (uni_ab lb a b).symm
    · intro q
      unfold uni
      have : lb (max (lb a) (lb b)) = max (lb a) (lb b) := by
        by_cases hab : lb a ≤ lb b
        · rw [Nat.max_eq_right hab]; exact lb'.2
        · rw [Nat.max_eq_left (by omega)]; exact la.2
      rw [if_pos this, q]
  · refine ⟨r, r1, by rw [zuI_o e]; exact r2, uni_e r3, u4, fun q => ?_⟩
    have := r5 q
    unfold uni
    rw [if_neg (by omega), this]
abbrev gw_X4_linkGroups (d : Nat) (Q : zQt) (pc : Nat) (lv : zV) (st : List Value) (I : zI) (L : zL) (P : zP) : Prop := zW zm_X4_linkGroups (zRm d 0 0) 0 0 Q pc lv st I L P 205 0 0
abbrev v_X4_linkGroups_55 (d : Nat) (Q : zQt) (p1 : Nat) (x2 : Int32) (x3 : Nat) (x4 : Int32) (I : zI) (L : zL) (P : zP) : Prop :=
  (p1 < 205 ∧ (zsh p1).1 = 5) ∧
  (((I p1 3) ≤ x4 →
    gw_X4_linkGroups (d + 1) Q 24 [some (.ref 23), some (.ref p1), some (.int (x2 + 1)), none, none, none, none, none, none] [] I L P
  ) ∧ (¬ (I p1 3) ≤ x4 →
    ∃ b24 : Nat, P p1 2 = some b24 ∧
    ∃ n27, (b24 < 205 ∧ zsh b24 = (100, n27)) ∧
    vp_in x4 n27 ∧
    ∃ n30, (x3 < 205 ∧ zsh x3 = (100, n30)) ∧
    vp_in (I b24 x4.toNatClampNeg) n30 ∧
    vp_in (I x3 (I b24 x4.toNatClampNeg).toNatClampNeg) 256 ∧
    ((¬ (I 70 (I x3 (I b24 x4.toNatClampNeg).toNatClampNeg).toNatClampNeg) = (-1) →
      zMi zm_X4_rootOf d [.ref 23, .int (I 70 (I x3 (I b24 x4.toNatClampNeg).toNatClampNeg).toNatClampNeg)] I L P (fun r38 I34 L35 P36 =>
        zMi zm_X4_rootOf d [.ref 23, .int (I b24 x4.toNatClampNeg)] I34 L35 P36 (fun r43 I39 L40 P41 =>
          zPk P41 ∧
          vp_in (if r38 < r43 then r43 else r38) 256 ∧
          ∀ I47 : zI, I47 = zuI I39 71 (if r38 < r43 then r43 else r38).toNatClampNeg (if r43 < r38 then r43 else r38) →
          gw_X4_linkGroups (d + 1) Q 55 [some (.ref 23), some (.ref p1), some (.int x2), some (.ref x3), some (.int (x4 + 1)), none, none, none, none] [] I47 L40 P41
        )
      )
    ) ∧ ((I 70 (I x3 (I b24 x4.toNatClampNeg).toNatClampNeg).toNatClampNeg) = (-1) →
      ∀ I49 : zI, I49 = zuI I 70 (I x3 (I b24 x4.toNatClampNeg).toNatClampNeg).toNatClampNeg (I b24 x4.toNatClampNeg) →
      gw_X4_linkGroups (d + 1) Q 55 [some (.ref 23), some (.ref p1), some (.int x2), some (.ref x3), some (.int (x4 + 1)), none, none, none, none] [] I49 L P
    ))
  ))
set_option maxRecDepth 20000 in
theorem g_X4_linkGroups_55 {d : Nat} {Q : zQt} {p1 : Nat} {x2 : Int32} {x3 : Nat} {x4 : Int32} {I : zI} {L : zL} {P : zP} (hP : zPk P) (hv : v_X4_linkGroups_55 d Q p1 x2 x3 x4 I L P) : gw_X4_linkGroups (d + 1) Q 55 [some (.ref 23), some (.ref p1), some (.int x2), some (.ref x3), some (.int x4), none, none, none, none] [] I L P := by
  unfold v_X4_linkGroups_55 at hv
  refine z_iload dX4_linkGroups_55 rfl ?_
  refine z_aload_n dX4_linkGroups_57 rfl ?_
  obtain ⟨h22, hv⟩ := hv
  refine z_getI dX4_linkGroups_58 zf_X4_95 h22.1 h22.2 (fun _ _ _ _ _ => rfl) ?_
  refine z_icmp_ge (tgt := 145) dX4_linkGroups_61 (by decide) (fun q23 => ?_) (fun q23 => ?_)
  · have hv := hv.1 q23
    refine z_iinc (v2 := x2 + 1) (lv2 := [some (.ref 23), some (.ref p1), some (.int (x2 + 1)), some (.ref x3), some (.int x4), none, none, none, none]) dX4_linkGroups_145 rfl (by rfl) (by decide) rfl rfl ?_
    refine z_goto (tgt := 24) dX4_linkGroups_148 (by decide) ?_
    exact z_sub (by exact ⟨rfl, ⟨rfl, ⟨rfl, trivial⟩⟩⟩) hv
  · have hv := hv.2 q23
    refine z_aload_n dX4_linkGroups_64 rfl ?_
    obtain ⟨b24, h25, hv⟩ := hv
    refine z_getP dX4_linkGroups_65 zf_X4_98 h22.1 h22.2 (fun _ _ _ _ _ => rfl) h25 ?_
    refine z_iload dX4_linkGroups_68 rfl ?_
    obtain ⟨n27, h26, hv⟩ := hv
    obtain ⟨h28, hv⟩ := hv
    refine z_iaload dX4_linkGroups_70 h26.1 h26.2 h28 ?_
    refine z_istore (lv2 := [some (.ref 23), some (.ref p1), some (.int x2), some (.ref x3), some (.int x4), some (.int (I b24 x4.toNatClampNeg)), none, none, none]) dX4_linkGroups_71 (by decide) rfl rfl ?_
    refine z_aload_n dX4_linkGroups_73 rfl ?_
    refine z_getP dX4_linkGroups_74 zf_X4_22 zn_23 zo_23 (fun _ _ _ _ _ => rfl) (hP 23 2 70 zp_23_2) ?_
    refine z_aload_n dX4_linkGroups_77 rfl ?_
    refine z_iload dX4_linkGroups_78 rfl ?_
    obtain ⟨n30, h29, hv⟩ := hv
    obtain ⟨h31, hv⟩ := hv
    refine z_iaload dX4_linkGroups_80 h29.1 h29.2 h31 ?_
    obtain ⟨h32, hv⟩ := hv
    refine z_iaload dX4_linkGroups_81 zn_70 zh_70 h32 ?_
    refine z_istore (lv2 := [some (.ref 23), some (.ref p1), some (.int x2), some (.ref x3), some (.int x4), some (.int (I b24 x4.toNatClampNeg)), some (.int (I 70 (I x3 (I b24 x4.toNatClampNeg).toNatClampNeg).toNatClampNeg)), none, none]) dX4_linkGroups_82 (by decide) rfl rfl ?_
    refine z_iload dX4_linkGroups_84 rfl ?_
    refine z_iconst (v := (-1)) dX4_linkGroups_86 (by decide) ?_
    refine z_icmp_ne (tgt := 104) dX4_linkGroups_87 (by decide) (fun q33 => ?_) (fun q33 => ?_)
    · have hv := hv.1 q33
      refine z_aload_n dX4_linkGroups_104 rfl ?_
      refine z_iload dX4_linkGroups_105 rfl ?_
      refine z_callV (As := [.int (I 70 (I x3 (I b24 x4.toNatClampNeg).toNatClampNeg).toNatClampNeg)]) (st := []) dX4_linkGroups_107 zl_X4_150 zv_X4_rootOf (by decide) rfl zn_23 zo_23 rfl rfl (Nat.le_of_ble_eq_true rfl) ⟨Nat.le_refl _, Nat.le_refl _⟩ ⟨Nat.le_refl _, Nat.le_refl _⟩ hv (fun v1 I34 L35 P36 nx1 q37 => ?_)
      obtain ⟨rfl, r38, rfl, hv⟩ := q37
      refine z_istore (lv2 := [some (.ref 23), some (.ref p1), some (.int x2), some (.ref x3), some (.int x4), some (.int (I b24 x4.toNatClampNeg)), some (.int (I 70 (I x3 (I b24 x4.toNatClampNeg).toNatClampNeg).toNatClampNeg)), some (.int r38), none]) dX4_linkGroups_110 (by decide) rfl rfl ?_
      refine z_aload_n dX4_linkGroups_112 rfl ?_
      refine z_iload dX4_linkGroups_113 rfl ?_
      refine z_callV (As := [.int (I b24 x4.toNatClampNeg)]) (st := []) dX4_linkGroups_115 zl_X4_150 zv_X4_rootOf (by decide) rfl zn_23 zo_23 rfl rfl (Nat.le_of_ble_eq_true rfl) ⟨Nat.le_refl _, Nat.le_refl _⟩ ⟨Nat.le_refl _, Nat.le_refl _⟩ hv (fun v1 I39 L40 P41 nx1 q42 => ?_)
      obtain ⟨rfl, r43, rfl, hv⟩ := q42
      refine z_istore (lv2 := [some (.ref 23), some (.ref p1), some (.int x2), some (.ref x3), some (.int x4), some (.int (I b24 x4.toNatClampNeg)), some (.int (I 70 (I x3 (I b24 x4.toNatClampNeg).toNatClampNeg).toNatClampNeg)), some (.int r38), some (.int r43)]) dX4_linkGroups_118 (by decide) rfl rfl ?_
      refine z_aload_n dX4_linkGroups_120 rfl ?_
      obtain ⟨h44, hv⟩ := hv
      refine z_getP dX4_linkGroups_121 zf_X4_25 zn_23 zo_23 (fun _ _ _ _ _ => rfl) (h44 23 3 71 zp_23_3) ?_
      refine z_iload dX4_linkGroups_124 rfl ?_
      refine z_iload dX4_linkGroups_126 rfl ?_
      refine z_mmax dX4_linkGroups_128 zl_X4_153 (Nat.le_of_ble_eq_true rfl) ⟨Nat.le_add_left _ _, zr64 _⟩ (Nat.zero_le _) (Nat.zero_le _) ?_
      refine z_iload dX4_linkGroups_131 rfl ?_
      refine z_iload dX4_linkGroups_133 rfl ?_
      refine z_mmin dX4_linkGroups_135 zl_X4_159 (Nat.le_of_ble_eq_true rfl) ⟨Nat.le_add_left _ _, zr64 _⟩ (Nat.zero_le _) (Nat.zero_le _) ?_
      obtain ⟨h45, hv⟩ := hv
      refine z_iastore dX4_linkGroups_138 zn_71 zh_71 h45 (z_nmI (fun I47 e46 => ?_))
      have hv := hv I47 e46
      refine z_iinc (v2 := x4 + 1) (lv2 := [some (.ref 23), some (.ref p1), some (.int x2), some (.ref x3), some (.int (x4 + 1)), some (.int (I b24 x4.toNatClampNeg)), some (.int (I 70 (I x3 (I b24 x4.toNatClampNeg).toNatClampNeg).toNatClampNeg)), some (.int r38), some (.int r43)]) dX4_linkGroups_139 rfl (by rfl) (by decide) rfl rfl ?_
      refine z_goto (tgt := 55) dX4_linkGroups_142 (by decide) ?_
      exact z_sub (by exact ⟨rfl, ⟨rfl, ⟨rfl, ⟨rfl, ⟨rfl, trivial⟩⟩⟩⟩⟩) hv
    · have hv := hv.2 q33
      refine z_aload_n dX4_linkGroups_90 rfl ?_
      refine z_getP dX4_linkGroups_91 zf_X4_22 zn_23 zo_23 (fun _ _ _ _ _ => rfl) (hP 23 2 70 zp_23_2) ?_
      refine z_aload_n dX4_linkGroups_94 rfl ?_
      refine z_iload dX4_linkGroups_95 rfl ?_
      refine z_iaload dX4_linkGroups_97 h29.1 h29.2 h31 ?_
      refine z_iload dX4_linkGroups_98 rfl ?_
      refine z_iastore dX4_linkGroups_100 zn_70 zh_70 h32 (z_nmI (fun I49 e48 => ?_))
      have hv := hv I49 e48
      refine z_goto (tgt := 139) dX4_linkGroups_101 (by decide) ?_
      refine z_iinc (v2 := x4 + 1) (lv2 := [some (.ref 23), some (.ref p1), some (.int x2), some (.ref x3), some (.int (x4 + 1)), some (.int (I b24 x4.toNatClampNeg)), some (.int (I 70 (I x3 (I b24 x4.toNatClampNeg).toNatClampNeg).toNatClampNeg)), none, none]) dX4_linkGroups_139 rfl (by rfl) (by decide) rfl rfl ?_
      refine z_goto (tgt := 55) dX4_linkGroups_142 (by decide) ?_
      exact z_sub (by exact ⟨rfl, ⟨rfl, ⟨rfl, ⟨rfl, ⟨rfl, trivial⟩⟩⟩⟩⟩) hv
abbrev v_X4_linkGroups_24 (d : Nat) (Q : zQt) (p1 : Nat) (x2 : Int32) (I : zI) (L : zL) (P : zP) : Prop :=
  (p1 < 205 ∧ (zsh p1).1 = 5) ∧
  ∃ b6 : Nat, P p1 1 = some b6 ∧
  (b6 < 205 ∧ (zsh b6).1 = 2) ∧
  (((I b6 0) ≤ x2 →
    Q none I L P 205
  ) ∧ (¬ (I b6 0) ≤ x2 →
    ∃ b10 : Nat, P p1 0 = some b10 ∧
    (b10 < 205 ∧ (zsh b10).1 = 9) ∧
    vw b10 ∧
    vp_in x2 8 ∧
    zMv zm_J7_fill_53178 d [.ref 70, .int (-1)] I L P (fun I17 L18 P19 =>
      gw_X4_linkGroups (d + 1) Q 55 [some (.ref 23), some (.ref p1), some (.int x2), some (.ref (b10 + 2 + (x2 : Int32).toNatClampNeg)), some (.int 0), none, none, none, none] [] I17 L18 P19
    )
  ))
set_option maxRecDepth 20000 in
theorem g_X4_linkGroups_24 {d : Nat} {Q : zQt} {p1 : Nat} {x2 : Int32} {I : zI} {L : zL} {P : zP} (hP : zPk P) (hv : v_X4_linkGroups_24 d Q p1 x2 I L P) : gw_X4_linkGroups (d + 1) Q 24 [some (.ref 23), some (.ref p1), some (.int x2), none, none, none, none, none, none] [] I L P := by
  unfold v_X4_linkGroups_24 at hv
  refine z_iload_n dX4_linkGroups_24 rfl ?_
  refine z_aload_n dX4_linkGroups_25 rfl ?_
  obtain ⟨h5, hv⟩ := hv
  obtain ⟨b6, h7, hv⟩ := hv
  refine z_getP dX4_linkGroups_26 zf_X4_35 h5.1 h5.2 (fun _ _ _ _ _ => rfl) h7 ?_
  obtain ⟨h8, hv⟩ := hv
  refine z_getI dX4_linkGroups_29 zf_X4_137 h8.1 h8.2 (fun _ _ _ _ _ => rfl) ?_
  refine z_icmp_ge (tgt := 151) dX4_linkGroups_32 (by decide) (fun q9 => ?_) (fun q9 => ?_)
  · have hv := hv.1 q9
    exact z_return dX4_linkGroups_151 rfl (Nat.le_refl _) (Nat.le_refl _) hv
  · have hv := hv.2 q9
    refine z_aload_n dX4_linkGroups_35 rfl ?_
    obtain ⟨b10, h11, hv⟩ := hv
    refine z_getP dX4_linkGroups_36 zf_X4_117 h5.1 h5.2 (fun _ _ _ _ _ => rfl) h11 ?_
    refine z_iload_n dX4_linkGroups_39 rfl ?_
    obtain ⟨h12, hv⟩ := hv
    obtain ⟨h13, hv⟩ := hv
    obtain ⟨h14, hv⟩ := hv
    refine z_callV (As := [.int x2]) (st := []) dX4_linkGroups_40 zl_X4_121 zv_X10_of (by decide) rfl h12.1 h12.2 rfl rfl (Nat.le_of_ble_eq_true rfl) ⟨Nat.le_refl _, Nat.le_refl _⟩ ⟨Nat.le_refl _, Nat.le_refl _⟩ (sp_X10_of hP h13 h14 (K := fun r I' L' P' => b10 + 2 + (x2 : Int32).toNatClampNeg = r ∧ I = I' ∧ L = L' ∧ P = P') ⟨rfl, rfl, rfl, rfl⟩) (fun v1 I2 L2 P2 nx1 q16 => ?_)
    obtain ⟨rfl, r15, rfl, rfl, rfl, rfl, rfl⟩ := q16
    refine z_astore_n (lv2 := [some (.ref 23), some (.ref p1), some (.int x2), some (.ref (b10 + 2 + (x2 : Int32).toNatClampNeg)), none, none, none, none, none]) dX4_linkGroups_43 (by decide) rfl rfl ?_
    refine z_aload_n dX4_linkGroups_44 rfl ?_
    refine z_getP dX4_linkGroups_45 zf_X4_22 zn_23 zo_23 (fun _ _ _ _ _ => rfl) (hP 23 2 70 zp_23_2) ?_
    refine z_iconst (v := (-1)) dX4_linkGroups_48 (by decide) ?_
    refine z_callS (As := [.ref 70, .int (-1)]) (st := []) dX4_linkGroups_49 zl_X4_131 zs_J7_fill_53178 rfl rfl (Nat.le_of_ble_eq_true rfl) ⟨Nat.le_refl _, Nat.le_refl _⟩ ⟨Nat.le_refl _, Nat.le_refl _⟩ hv (fun v1 I17 L18 P19 nx1 q20 => ?_)
    obtain ⟨rfl, rfl, hv⟩ := q20
    refine z_iconst (v := 0) dX4_linkGroups_52 (by decide) ?_
    refine z_istore (lv2 := [some (.ref 23), some (.ref p1), some (.int x2), some (.ref (b10 + 2 + (x2 : Int32).toNatClampNeg)), some (.int 0), none, none, none, none]) dX4_linkGroups_53 (by decide) rfl rfl ?_
    exact hv
abbrev v_X4_linkGroups_2 (d : Nat) (Q : zQt) (p1 : Nat) (x2 : Int32) (I : zI) (L : zL) (P : zP) : Prop :=
  ((256 ≤ x2 →
    gw_X4_linkGroups (d + 1) Q 24 [some (.ref 23), some (.ref p1), some (.int 0), none, none, none, none, none, none] [] I L P
  ) ∧ (¬ 256 ≤ x2 →
    vp_in x2 256 ∧
    ∀ I4 : zI, I4 = zuI I 71 x2.toNatClampNeg x2 →
    gw_X4_linkGroups (d + 1) Q 2 [some (.ref 23), some (.ref p1), some (.int (x2 + 1)), none, none, none, none, none, none] [] I4 L P
  ))
set_option maxRecDepth 20000 in
theorem g_X4_linkGroups_2 {d : Nat} {Q : zQt} {p1 : Nat} {x2 : Int32} {I : zI} {L : zL} {P : zP} (hP : zPk P) (hv : v_X4_linkGroups_2 d Q p1 x2 I L P) : gw_X4_linkGroups (d + 1) Q 2 [some (.ref 23), some (.ref p1), some (.int x2), none, none, none, none, none, none] [] I L P := by
  unfold v_X4_linkGroups_2 at hv
  refine z_iload_n dX4_linkGroups_2 rfl ?_
  refine z_sipush (v := 256) dX4_linkGroups_3 (by decide) ?_
  refine z_icmp_ge (tgt := 22) dX4_linkGroups_6 (by decide) (fun q1 => ?_) (fun q1 => ?_)
  · have hv := hv.1 q1
    refine z_iconst (v := 0) dX4_linkGroups_22 (by decide) ?_
    refine z_istore_n (lv2 := [some (.ref 23), some (.ref p1), some (.int 0), none, none, none, none, none, none]) dX4_linkGroups_23 (by decide) rfl rfl ?_
    exact hv
  · have hv := hv.2 q1
    refine z_aload_n dX4_linkGroups_9 rfl ?_
    refine z_getP dX4_linkGroups_10 zf_X4_25 zn_23 zo_23 (fun _ _ _ _ _ => rfl) (hP 23 3 71 zp_23_3) ?_
    refine z_iload_n dX4_linkGroups_13 rfl ?_
    refine z_iload_n dX4_linkGroups_14 rfl ?_
    obtain ⟨h2, hv⟩ := hv
    refine z_iastore dX4_linkGroups_15 zn_71 zh_71 h2 (z_nmI (fun I4 e3 => ?_))
    have hv := hv I4 e3
    refine z_iinc (v2 := x2 + 1) (lv2 := [some (.ref 23), some (.ref p1), some (.int (x2 + 1)), none, none, none, none, none, none]) dX4_linkGroups_16 rfl (by rfl) (by decide) rfl rfl ?_
    refine z_goto (tgt := 2) dX4_linkGroups_19 (by decide) ?_
    exact hv
abbrev v_X4_linkGroups (d : Nat) (Q : zQt) (p1 : Nat) (I : zI) (L : zL) (P : zP) : Prop :=
  gw_X4_linkGroups (d + 1) Q 2 [some (.ref 23), some (.ref p1), some (.int 0), none, none, none, none, none, none] [] I L P
set_option maxRecDepth 20000 in
theorem g_X4_linkGroups {d : Nat} {Q : zQt} {p1 : Nat} {I : zI} {L : zL} {P : zP} (hP : zPk P) (hv : v_X4_linkGroups d Q p1 I L P) : zM zm_X4_linkGroups (d + 1) 0 0 [.ref 23, .ref p1] I L P 205 Q := by
  unfold v_X4_linkGroups at hv
  refine zM_of (lv0 := [some (.ref 23), some (.ref p1), none, none, none, none, none, none, none]) (by decide +kernel) (Nat.le_of_ble_eq_true rfl) rfl ?_
  refine z_iconst (v := 0) dX4_linkGroups_0 (by decide) ?_
  refine z_istore_n (lv2 := [some (.ref 23), some (.ref p1), some (.int 0), none, none, none, none, none, none]) dX4_linkGroups_1 (by decide) rfl rfl ?_
  exact hv
section LG
variable {d : Nat} {Q : zQt} {I0 : zI} {L : zL} {P : zP} {s l v p t np N : Nat} {xs : List Nat} {g : Nat → Nat → Nat}
/-- labels never join what doesn't hang together -/
def lSo (np N : Nat) (xs : List Nat) (g : Nat → Nat → Nat) (lb : Nat → Nat) : Prop := ∀ a b, a < 256 → b < 256 → lb a = lb b → a = b ∨ (a ∈ xs ∧ b ∈ xs ∧ sCo np N (xo xs) (gk g) a b)
/-- of these groups each has one label -/
def lCo (xs : List Nat) (g : Nat → Nat) (lb : Nat → Nat) : Prop := ∀ a ∈ xs, ∀ b ∈ xs, g a = g b → lb a = lb b
theorem lSo_uni {lb : Nat → Nat} {a b : Nat} (hN : ∀ w ∈ xs, w < N) (h : lSo np N xs g lb) (ha : a ∈ xs) (hb : b ∈ xs) (ha2 : a < 256) (hb2 : b < 256) (hp : p < np) (hg : g p a = g p b) : lSo np N xs g (uni lb a b) := by
  have sy : ∀ p a b, gk g p a b → gk g p b a := fun _ _ _ z => Eq.symm z
  have ab : sCo np N (xo xs) (gk g) a b := sCo_st (sCo_rf a) (hN b hb) hb hp (show gk g p a b from hg.symm)
  have ba : sCo np N (xo xs) (gk g) b a := sCo_st (sCo_rf b) (hN a ha) ha hp (show gk g p b a from hg)
  have to : ∀ x, x < 256 → lb x = lb a ∨ lb x = lb b → x ∈ xs ∧ sCo np N (xo xs) (gk g) x a := by
    rintro x hx (z | z)
    · rcases h x a hx ha2 z with rfl | ⟨h1, h2, h3⟩
      · exact ⟨ha, sCo_rf _⟩
      · exact ⟨h1, h3⟩
    · rcases h x b hx hb2 z with rfl | ⟨h1, h2, h3⟩
      · exact ⟨hb, ba⟩
      · exact ⟨h1, sCo_tr h3 ba⟩
  intro x y hx hy e
  rcases uni_i e (fun _ _ => trivial) with z | ⟨z1, z2⟩
  · exact h x y hx hy z
  · obtain ⟨x1, x2⟩ := to x hx z1
    obtain ⟨y1, y2⟩ := to y hy z2
    exact Or.inr ⟨x1, y1, sCo_tr x2 (sCo_sy sy (hN y y1) y1 y2)⟩
theorem lp_X4_linkGroups_55 (hP : zPk P) (hsc : sc s l v) (hp : p < 8) (hpn : p < np) (hS : cS s l I0 xs) (hN : ∀ w ∈ xs, w < N) (hg : cG v p I0 xs (g p))
    (kk : ∀ I lb, cFr [70, 71] I0 I → uf I lb → lSo np N xs g lb → (∀ q, q < p + 1 → lCo xs (g q) lb) → gw_X4_linkGroups (d + 1) Q 24 [some (.ref 23), some (.ref s), some (.int (nI (p + 1))), none, none, none, none, none, none] [] I L P) :
    ∀ ys zs I lb, xs = zs ++ ys → cFr [70, 71] I0 I → uf I lb → lSo np N xs g lb → (∀ q, q < p → lCo xs (g q) lb) →
      (∀ k, k < 256 → (I 70 k = -1 ∧ ∀ w ∈ zs, ¬ g p w = k) ∨ ∃ x ∈ zs, g p x = k ∧ I 70 k = nI x) → (∀ a ∈ zs, ∀ b ∈ zs, g p a = g p b → lb a = lb b) →
      gw_X4_linkGroups (d + 1) Q 55 [some (.ref 23), some (.ref s), some (.int (nI p)), some (.ref (v + 2 + p)), some (.int (nI zs.length)), none, none, none, none] [] I L P := by
  obtain ⟨p1, p2, p3, p4⟩ := sc_P hsc hP
  obtain ⟨-, -, -, -, -, v6⟩ := vw_P (sc_v hsc) hP
  have hsc2 := hsc
  unfold sc at hsc2
  intro ys
  induction ys with
  | nil =>
    intro zs I lb e hf hu h1 h2 h3 h4
    rw [List.append_nil] at e
    subst e
    have hS1 := cS_c hS (show I s 3 = I0 s 3 by rw [hf s (by simp only [List.mem_cons, List.not_mem_nil, or_false]; omega)]) (hf l (by simp only [List.mem_cons, List.not_mem_nil, or_false]; omega))
    refine g_X4_linkGroups_55 hP ⟨p1, fun _ => ?_, fun q => absurd (cS_end hS1) q⟩
    rw [nI_1]
    refine kk I lb hf hu h1 (fun q hq => ?_)
    rcases Nat.lt_succ_iff_lt_or_eq.mp hq with z | z
    · exact h2 q z
    · subst z; exact h4
  | cons x ys ih =>
    intro zs I lb e hf hu h1 h2 h3 h4
    have hS1 := cS_c hS (show I s 3 = I0 s 3 by rw [hf s (by simp only [List.mem_cons, List.not_mem_nil, or_false]; omega)]) (hf l (by simp only [List.mem_cons, List.not_mem_nil, or_false]; omega))
    obtain ⟨a1, a2, a3, a4, a5, a6, a7, a8, a9⟩ := cS_on hS1 e
    obtain ⟨g1, g2⟩ := cG_c hg (hf (v + 2 + p) (by simp only [List.mem_cons, List.not_mem_nil, or_false]; omega)) x a7
    have e' : xs = (zs ++ [x]) ++ ys := by rw [e, List.append_assoc]; rfl
    have ek : (I (v + 2 + p) (I l (nI zs.length).toNatClampNeg).toNatClampNeg).toNatClampNeg = g p x := by rw [a3, a5, g2, nI_cl (by omega)]
    refine g_X4_linkGroups_55 hP ⟨p1, fun q => absurd q a1, fun _ => ⟨l, p2, 256, p3, a2, 256, (v6 p hp).2, by rw [a3]; exact a6, by rw [a3, a5, g2]; exact nx_in g1 (by decide), fun q => ?_, fun q I1 e1 => ?_⟩⟩
    · rw [ek] at q ⊢
      rcases h3 (g p x) g1 with ⟨b1, -⟩ | ⟨f, f1, f2, f3⟩
      · exact absurd b1 q
      · have fx : f ∈ xs := by rw [e]; simp [f1]
        have f256 := hS.2.2.1 f fx
        rw [f3, a3]
        refine sp_X4_rootOf hP f256 hu (fun I1 c1 c2 => sp_X4_rootOf hP a4 c2 (fun I2 c3 c4 => ⟨hP, ?_⟩))
        have lf := uf_lt hu f256
        have lx := uf_lt hu a4
        have emax : (if nI (lb f) < nI (lb x) then nI (lb x) else nI (lb f)) = nI (max (lb f) (lb x)) := by
          by_cases z : lb f < lb x
          · rw [if_pos (nI_lt z (by omega)), Nat.max_eq_right (by omega)]
          · rw [if_neg (nI_nlt (by omega) (by omega)), Nat.max_eq_left (by omega)]
        have emin : (if nI (lb x) < nI (lb f) then nI (lb x) else nI (lb f)) = nI (min (lb f) (lb x)) := by
          by_cases z : lb x < lb f
          · rw [if_pos (nI_lt z (by omega)), Nat.min_eq_right (by omega)]
          · rw [if_neg (nI_nlt (by omega) (by omega)), Nat.min_eq_left (by omega)]
        rw [emax, emin, nI_cl (by omega)]
        refine ⟨nx_in (by omega) (by decide), fun I3 e3 => ?_⟩
        subst e3
        rw [a8]
        have f70 : I2 70 = I 70 := by rw [c3 70 (by simp), c1 70 (by simp)]
        refine ih (zs ++ [x]) _ (uni lb f x) e' (cFr_c (cFr_tr hf (cFr_tr (cFr_wk c1 (by simp)) (cFr_wk c3 (by simp)))) (by simp)) (uf_uni c4 f256 a4) (lSo_uni hN h1 fx a7 f256 a4 hpn f2) (fun q hq a ha b hb hab => uni_e (h2 q hq a ha b hb hab)) (fun k hk => ?_) (fun a ha b hb hab => ?_)
        · rw [zuI_ne (by decide), f70]
          rcases h3 k hk with ⟨d1, d2⟩ | ⟨y, d1, d2, d3⟩
          · refine Or.inl ⟨d1, fun w hw => ?_⟩
            rcases mem_snoc.mp hw with z | z
            · exact d2 w z
            · subst z; rw [← f2]; exact d2 f f1
          · exact Or.inr ⟨y, mem_snoc.mpr (Or.inl d1), d2, d3⟩
        · have fa : ∀ c, c ∈ zs ++ [x] → g p c = g p x → uni lb f x c = uni lb f x x := by
            intro c hc ec
            rcases mem_snoc.mp hc with z | z
            · rw [uni_e (h4 c z f f1 (by rw [ec, f2])), uni_ab]
            · rw [z]
          rcases mem_snoc.mp ha with z | z <;> rcases mem_snoc.mp hb with y | y
          · exact uni_e (h4 a z b y hab)
          · rw [y] at hab ⊢; exact fa a ha hab
          · rw [z] at hab ⊢; exact (fa b hb hab.symm).symm
          · rw [z, y]
    · rw [ek] at q
      rw [ek, a3] at e1
      subst e1
      rw [a8]
      refine ih (zs ++ [x]) _ lb e' (cFr_c hf (by simp)) (uf_c hu (zuI_ne (by decide))) h1 h2 (fun k hk => ?_) (fun a ha b hb hab => ?_)
      · by_cases ekk : k = g p x
        · subst ekk
          exact Or.inr ⟨x, mem_snoc.mpr (Or.inr rfl), rfl, zuI_v _ _ _ _⟩
        · rw [zuI_o ekk]
          rcases h3 k hk with ⟨d1, d2⟩ | ⟨y, d1, d2, d3⟩
          · refine Or.inl ⟨d1, fun w hw => ?_⟩
            rcases mem_snoc.mp hw with z | z
            · exact d2 w z
            · subst z; exact Ne.symm ekk
          · exact Or.inr ⟨y, mem_snoc.mpr (Or.inl d1), d2, d3⟩
      · have nz : ∀ w ∈ zs, ¬ g p w = g p x := by
          rcases h3 (g p x) g1 with ⟨-, d2⟩ | ⟨y, d1, d2, d3⟩
          · exact d2
          · rw [d3] at q
            have y256 := hS.2.2.1 y (by rw [e]; simp [d1])
            have := congrArg Int32.toInt q
            rw [nI_toInt (by omega)] at this
            have h1 : (-1 : Int32).toInt = -1 := by decide
            omega
        rcases mem_snoc.mp ha with z | z <;> rcases mem_snoc.mp hb with y | y
        · exact h4 a z b y hab
        · rw [y] at hab; exact absurd hab (nz a z)
        · rw [z] at hab; exact absurd hab.symm (nz b y)
        · rw [z, y]
theorem lp_X4_linkGroups_24 (hP : zPk P) (hsc : sc s l v) (hS : cS s l I0 xs) (hN : ∀ w ∈ xs, w < N) (ht : P s 1 = some t) (hH : iH t np I0) (hg : ∀ p, p < np → cG v p I0 xs (g p))
    (kk : ∀ I lb, cFr [70, 71] I0 I → uf I lb → lSo np N xs g lb → (∀ q, q < np → lCo xs (g q) lb) → Q none I L P 205) :
    ∀ m i I lb, i + m = np → cFr [70, 71] I0 I → uf I lb → lSo np N xs g lb → (∀ q, q < i → lCo xs (g q) lb) →
      gw_X4_linkGroups (d + 1) Q 24 [some (.ref 23), some (.ref s), some (.int (nI i)), none, none, none, none, none, none] [] I L P := by
  obtain ⟨p1, p2, p3, p4⟩ := sc_P hsc hP
  obtain ⟨v1, -⟩ := vw_P (sc_v hsc) hP
  have hsc2 := hsc
  unfold sc at hsc2
  obtain ⟨i1, i2, i3⟩ := hH
  have i1' := i1
  unfold il at i1'
  have b1 := (il_P i1 hP).1
  intro m
  induction m with
  | zero =>
    intro i I lb hi hf hu h1 h2
    have : i = np := by omega
    subst this
    have e0 : I t 0 = nI i := by rw [hf t (by simp only [List.mem_cons, List.not_mem_nil, or_false]; omega)]; exact i3
    exact g_X4_linkGroups_24 hP ⟨p1, t, ht, b1, fun _ => kk I lb hf hu h1 h2, fun q => absurd (by rw [e0]; exact nI_le (Nat.le_refl _) (by omega)) q⟩
  | succ m ih =>
    intro i I lb hi hf hu h1 h2
    have e0 : I t 0 = nI np := by rw [hf t (by simp only [List.mem_cons, List.not_mem_nil, or_false]; omega)]; exact i3
    have h8 : i < 8 := by omega
    refine g_X4_linkGroups_24 hP ?_
    unfold v_X4_linkGroups_24
    rw [nI_cl (show i < 2 ^ 31 by omega)]
    refine ⟨p1, t, ht, b1, fun q => absurd q (by rw [e0]; exact nI_ge (by omega) (by omega)), fun _ => ⟨v, p4, v1, sc_v hsc, nx_in h8 (by decide), sp_fill hP (n := 256) ⟨by decide, rfl⟩ (by decide) (fun I1 f1 f2 => ?_)⟩⟩
    refine lp_X4_linkGroups_55 (I0 := I1) (np := np) (N := N) (g := g) hP hsc h8 (by omega) (cS_c hS (by rw [f1 s (by simp only [List.mem_cons, List.not_mem_nil, or_false]; omega), hf s (by simp only [List.mem_cons, List.not_mem_nil, or_false]; omega)]) (by rw [f1 l (by simp only [List.mem_cons, List.not_mem_nil, or_false]; omega), hf l (by simp only [List.mem_cons, List.not_mem_nil, or_false]; omega)])) hN (cG_c (hg i (by omega)) (by rw [f1 (v + 2 + i) (by simp only [List.mem_cons, List.not_mem_nil, or_false]; omega), hf (v + 2 + i) (by simp only [List.mem_cons, List.not_mem_nil, or_false]; omega)])) (fun I2 lb2 f3 f4 f5 f6 => ?_) xs [] I1 lb rfl (cFr_rf _ _) (uf_c hu (f1 71 (by simp))) h1 h2 (fun k hk => Or.inl ⟨f2 k hk, fun w hw => absurd hw (by simp)⟩) (fun a ha => absurd ha (by simp))
    exact ih (i + 1) I2 lb2 (by omega) (cFr_tr hf (cFr_tr (cFr_wk f1 (by simp)) f3)) f4 f5 f6
end LG
theorem sp_X4_linkGroups {d : Nat} {I : zI} {L : zL} {P : zP} {s l v t np N : Nat} {xs : List Nat} {g : Nat → Nat → Nat} (hP : zPk P) (hsc : sc s l v) (hS : cS s l I xs) (hN : ∀ w ∈ xs, w < N) (ht : P s 1 = some t) (hH : iH t np I) (hg : ∀ p, p < np → cG v p I xs (g p)) (hd : 1 ≤ d) {K : zI → zL → zP → Prop}
    (kk : ∀ I' lb, cFr [70, 71] I I' → uf I' lb → (∀ a ∈ xs, ∀ b ∈ xs, (lb a = lb b ↔ sCo np N (xo xs) (gk g) a b)) → K I' L P) : zMv zm_X4_linkGroups d [.ref 23, .ref s] I L P K := by
  obtain ⟨d, rfl⟩ : ∃ e, d = e + 1 := ⟨d - 1, by omega⟩
  have hsc2 := hsc
  unfold sc at hsc2
  have i1 := hH.1
  unfold il at i1
  have i2 := hH.2.1
  have key : ∀ m i J, i + m = 256 → cFr [71] I J → (∀ j, j < i → J 71 j = nI j) → gw_X4_linkGroups (d + 1) (fun v I' L' P' nx' => nx' = 205 ∧ v = none ∧ K I' L' P') 2 [some (.ref 23), some (.ref s), some (.int (nI i)), none, none, none, none, none, none] [] J L P := by
    intro m
    induction m with
    | zero =>
      intro i J hi hf h1
      have : i = 256 := by omega
      subst this
      refine g_X4_linkGroups_2 hP ⟨fun _ => ?_, fun q => absurd (by decide) q⟩
      refine lp_X4_linkGroups_24 (I0 := J) (np := np) (N := N) (g := g) hP hsc (cS_c hS (by rw [hf s (by simp only [List.mem_cons, List.not_mem_nil, or_false]; omega)]) (hf l (by simp only [List.mem_cons, List.not_mem_nil, or_false]; omega))) hN ht (iH_c hH (hf t (by simp only [List.mem_cons, List.not_mem_nil, or_false]; omega))) (fun p hp => cG_c (hg p hp) (hf (v + 2 + p) (by simp only [List.mem_cons, List.not_mem_nil, or_false]; omega))) (fun I2 lb f1 f2 f3 f4 => qv (kk I2 lb (cFr_tr (cFr_wk hf (by simp)) f1) f2 (fun a ha b hb => ⟨fun z => ?_, fun z => ?_⟩))) np 0 J (fun w => w) (by omega) (cFr_rf _ _) (fun w hw => ⟨w, Nat.le_refl _, h1 w hw, rfl, Nat.le_refl _, fun _ => rfl⟩) (fun a b _ _ z => Or.inl z) (fun q hq => absurd hq (Nat.not_lt_zero q))
      · rcases f3 a b (hS.2.2.1 a ha) (hS.2.2.1 b hb) z with rfl | ⟨-, -, y⟩
        · exact sCo_rf _
        · exact y
      · have := z (fun u => u ∈ xs ∧ lb a = lb u) ⟨ha, rfl⟩ (fun c u p hc hu hpu hq hl => ⟨hpu, by rw [hc.2]; exact f4 p hq c hc.1 u hpu (Eq.symm hl)⟩)
        exact this.2
    | succ m ih =>
      intro i J hi hf h1
      refine g_X4_linkGroups_2 hP ⟨fun q => absurd q (by rw [show (256 : Int32) = nI 256 from rfl]; exact nI_ge (by omega) (by decide)), fun _ => ⟨nx_in (by omega) (by decide), fun I1 e1 => ?_⟩⟩
      rw [nI_cl (by omega)] at e1
      subst e1
      rw [nI_1]
      refine ih (i + 1) _ (by omega) (cFr_c hf (by simp)) (fun j hj => ?_)
      rcases Nat.lt_succ_iff_lt_or_eq.mp hj with z | z
      · rw [zuI_o (by omega)]; exact h1 j z
      · subst z; exact zuI_v _ _ _ _
  exact g_X4_linkGroups hP (key 256 0 I rfl (cFr_rf _ _) (fun j hj => absurd hj (Nat.not_lt_zero j)))
abbrev gw_X4_knowInCommon (d : Nat) (Q : zQt) (pc : Nat) (lv : zV) (st : List Value) (I : zI) (L : zL) (P : zP) : Prop := zW zm_X4_knowInCommon (zRm d 0 0) 0 0 Q pc lv st I L P 205 0 0
abbrev v_X4_knowInCommon_58 (d : Nat) (Q : zQt) (p1 : Nat) (p2 : Nat) (x3 : Int32) (I : zI) (L : zL) (P : zP) : Prop :=
  (p1 < 205 ∧ (zsh p1).1 = 5) ∧
  (((I p1 3) ≤ x3 →
    Q none I L P 205
  ) ∧ (¬ (I p1 3) ≤ x3 →
    ∃ b33 : Nat, P p1 2 = some b33 ∧
    ∃ n36, (b33 < 205 ∧ zsh b33 = (100, n36)) ∧
    vp_in x3 n36 ∧
    zMi zm_X4_rootOf d [.ref 23, .int (I b33 x3.toNatClampNeg)] I L P (fun r42 I38 L39 P40 =>
      vp_in r42 256 ∧
      ∃ n45, (p2 < 205 ∧ zsh p2 = (100, n45)) ∧
      vp_in (I b33 x3.toNatClampNeg) n45 ∧
      ∀ I48 : zI, I48 = zuI I38 p2 (I b33 x3.toNatClampNeg).toNatClampNeg (I38 69 r42.toNatClampNeg) →
      gw_X4_knowInCommon (d + 1) Q 58 [some (.ref 23), some (.ref p1), some (.ref p2), some (.int (x3 + 1)), none] [] I48 L39 P40
    )
  ))
set_option maxRecDepth 20000 in
theorem g_X4_knowInCommon_58 {d : Nat} {Q : zQt} {p1 : Nat} {p2 : Nat} {x3 : Int32} {I : zI} {L : zL} {P : zP} (hP : zPk P) (hv : v_X4_knowInCommon_58 d Q p1 p2 x3 I L P) : gw_X4_knowInCommon (d + 1) Q 58 [some (.ref 23), some (.ref p1), some (.ref p2), some (.int x3), none] [] I L P := by
  unfold v_X4_knowInCommon_58 at hv
  refine z_iload_n dX4_knowInCommon_58 rfl ?_
  refine z_aload_n dX4_knowInCommon_59 rfl ?_
  obtain ⟨h31, hv⟩ := hv
  refine z_getI dX4_knowInCommon_60 zf_X4_95 h31.1 h31.2 (fun _ _ _ _ _ => rfl) ?_
  refine z_icmp_ge (tgt := 95) dX4_knowInCommon_63 (by decide) (fun q32 => ?_) (fun q32 => ?_)
  · have hv := hv.1 q32
    exact z_return dX4_knowInCommon_95 rfl (Nat.le_refl _) (Nat.le_refl _) hv
  · have hv := hv.2 q32
    refine z_aload_n dX4_knowInCommon_66 rfl ?_
    obtain ⟨b33, h34, hv⟩ := hv
    refine z_getP dX4_knowInCommon_67 zf_X4_98 h31.1 h31.2 (fun _ _ _ _ _ => rfl) h34 ?_
    refine z_iload_n dX4_knowInCommon_70 rfl ?_
    obtain ⟨n36, h35, hv⟩ := hv
    obtain ⟨h37, hv⟩ := hv
    refine z_iaload dX4_knowInCommon_71 h35.1 h35.2 h37 ?_
    refine z_istore (lv2 := [some (.ref 23), some (.ref p1), some (.ref p2), some (.int x3), some (.int (I b33 x3.toNatClampNeg))]) dX4_knowInCommon_72 (by decide) rfl rfl ?_
    refine z_aload_n dX4_knowInCommon_74 rfl ?_
    refine z_iload dX4_knowInCommon_75 rfl ?_
    refine z_aload_n dX4_knowInCommon_77 rfl ?_
    refine z_getP dX4_knowInCommon_78 zf_X4_18 zn_23 zo_23 (fun _ _ _ _ _ => rfl) (hP 23 1 69 zp_23_1) ?_
    refine z_aload_n dX4_knowInCommon_81 rfl ?_
    refine z_iload dX4_knowInCommon_82 rfl ?_
    refine z_callV (As := [.int (I b33 x3.toNatClampNeg)]) (st := [.ref 69, .int (I b33 x3.toNatClampNeg), .ref p2]) dX4_knowInCommon_84 zl_X4_150 zv_X4_rootOf (by decide) rfl zn_23 zo_23 rfl rfl (Nat.le_of_ble_eq_true rfl) ⟨Nat.le_refl _, Nat.le_refl _⟩ ⟨Nat.le_refl _, Nat.le_refl _⟩ hv (fun v1 I38 L39 P40 nx1 q41 => ?_)
    obtain ⟨rfl, r42, rfl, hv⟩ := q41
    obtain ⟨h43, hv⟩ := hv
    refine z_iaload dX4_knowInCommon_87 zn_69 zh_69 h43 ?_
    obtain ⟨n45, h44, hv⟩ := hv
    obtain ⟨h46, hv⟩ := hv
    refine z_iastore dX4_knowInCommon_88 h44.1 h44.2 h46 (z_nmI (fun I48 e47 => ?_))
    have hv := hv I48 e47
    refine z_iinc (v2 := x3 + 1) (lv2 := [some (.ref 23), some (.ref p1), some (.ref p2), some (.int (x3 + 1)), some (.int (I b33 x3.toNatClampNeg))]) dX4_knowInCommon_89 rfl (by rfl) (by decide) rfl rfl ?_
    refine z_goto (tgt := 58) dX4_knowInCommon_92 (by decide) ?_
    exact z_sub (by exact ⟨rfl, ⟨rfl, ⟨rfl, ⟨rfl, trivial⟩⟩⟩⟩) hv
abbrev v_X4_knowInCommon_15 (d : Nat) (Q : zQt) (p1 : Nat) (p2 : Nat) (x3 : Int32) (I : zI) (L : zL) (P : zP) : Prop :=
  (p1 < 205 ∧ (zsh p1).1 = 5) ∧
  (((I p1 3) ≤ x3 →
    gw_X4_knowInCommon (d + 1) Q 58 [some (.ref 23), some (.ref p1), some (.ref p2), some (.int 0), none] [] I L P
  ) ∧ (¬ (I p1 3) ≤ x3 →
    ∃ b14 : Nat, P p1 2 = some b14 ∧
    ∃ n17, (b14 < 205 ∧ zsh b14 = (100, n17)) ∧
    vp_in x3 n17 ∧
    ∃ n20, (p2 < 205 ∧ zsh p2 = (100, n20)) ∧
    vp_in (I b14 x3.toNatClampNeg) n20 ∧
    ((¬ (I p2 (I b14 x3.toNatClampNeg).toNatClampNeg) = 0 →
      gw_X4_knowInCommon (d + 1) Q 15 [some (.ref 23), some (.ref p1), some (.ref p2), some (.int (x3 + 1)), none] [] I L P
    ) ∧ ((I p2 (I b14 x3.toNatClampNeg).toNatClampNeg) = 0 →
      zMi zm_X4_rootOf d [.ref 23, .int (I b14 x3.toNatClampNeg)] I L P (fun r27 I23 L24 P25 =>
        vp_in r27 256 ∧
        ∀ I30 : zI, I30 = zuI I23 69 r27.toNatClampNeg 0 →
        gw_X4_knowInCommon (d + 1) Q 15 [some (.ref 23), some (.ref p1), some (.ref p2), some (.int (x3 + 1)), none] [] I30 L24 P25
      )
    ))
  ))
set_option maxRecDepth 20000 in
theorem g_X4_knowInCommon_15 {d : Nat} {Q : zQt} {p1 : Nat} {p2 : Nat} {x3 : Int32} {I : zI} {L : zL} {P : zP} (hP : zPk P) (hv : v_X4_knowInCommon_15 d Q p1 p2 x3 I L P) : gw_X4_knowInCommon (d + 1) Q 15 [some (.ref 23), some (.ref p1), some (.ref p2), some (.int x3), none] [] I L P := by
  unfold v_X4_knowInCommon_15 at hv
  refine z_iload_n dX4_knowInCommon_15 rfl ?_
  refine z_aload_n dX4_knowInCommon_16 rfl ?_
  obtain ⟨h12, hv⟩ := hv
  refine z_getI dX4_knowInCommon_17 zf_X4_95 h12.1 h12.2 (fun _ _ _ _ _ => rfl) ?_
  refine z_icmp_ge (tgt := 56) dX4_knowInCommon_20 (by decide) (fun q13 => ?_) (fun q13 => ?_)
  · have hv := hv.1 q13
    refine z_iconst (v := 0) dX4_knowInCommon_56 (by decide) ?_
    refine z_istore_n (lv2 := [some (.ref 23), some (.ref p1), some (.ref p2), some (.int 0), none]) dX4_knowInCommon_57 (by decide) rfl rfl ?_
    exact hv
  · have hv := hv.2 q13
    refine z_aload_n dX4_knowInCommon_23 rfl ?_
    obtain ⟨b14, h15, hv⟩ := hv
    refine z_getP dX4_knowInCommon_24 zf_X4_98 h12.1 h12.2 (fun _ _ _ _ _ => rfl) h15 ?_
    refine z_iload_n dX4_knowInCommon_27 rfl ?_
    obtain ⟨n17, h16, hv⟩ := hv
    obtain ⟨h18, hv⟩ := hv
    refine z_iaload dX4_knowInCommon_28 h16.1 h16.2 h18 ?_
    refine z_istore (lv2 := [some (.ref 23), some (.ref p1), some (.ref p2), some (.int x3), some (.int (I b14 x3.toNatClampNeg))]) dX4_knowInCommon_29 (by decide) rfl rfl ?_
    refine z_aload_n dX4_knowInCommon_31 rfl ?_
    refine z_iload dX4_knowInCommon_32 rfl ?_
    obtain ⟨n20, h19, hv⟩ := hv
    obtain ⟨h21, hv⟩ := hv
    refine z_iaload dX4_knowInCommon_34 h19.1 h19.2 h21 ?_
    refine z_if_ne (tgt := 50) dX4_knowInCommon_35 (by decide) (fun q22 => ?_) (fun q22 => ?_)
    · have hv := hv.1 q22
      refine z_iinc (v2 := x3 + 1) (lv2 := [some (.ref 23), some (.ref p1), some (.ref p2), some (.int (x3 + 1)), some (.int (I b14 x3.toNatClampNeg))]) dX4_knowInCommon_50 rfl (by rfl) (by decide) rfl rfl ?_
      refine z_goto (tgt := 15) dX4_knowInCommon_53 (by decide) ?_
      exact z_sub (by exact ⟨rfl, ⟨rfl, ⟨rfl, ⟨rfl, trivial⟩⟩⟩⟩) hv
    · have hv := hv.2 q22
      refine z_aload_n dX4_knowInCommon_38 rfl ?_
      refine z_getP dX4_knowInCommon_39 zf_X4_18 zn_23 zo_23 (fun _ _ _ _ _ => rfl) (hP 23 1 69 zp_23_1) ?_
      refine z_aload_n dX4_knowInCommon_42 rfl ?_
      refine z_iload dX4_knowInCommon_43 rfl ?_
      refine z_callV (As := [.int (I b14 x3.toNatClampNeg)]) (st := [.ref 69]) dX4_knowInCommon_45 zl_X4_150 zv_X4_rootOf (by decide) rfl zn_23 zo_23 rfl rfl (Nat.le_of_ble_eq_true rfl) ⟨Nat.le_refl _, Nat.le_refl _⟩ ⟨Nat.le_refl _, Nat.le_refl _⟩ hv (fun v1 I23 L24 P25 nx1 q26 => ?_)
      obtain ⟨rfl, r27, rfl, hv⟩ := q26
      refine z_iconst (v := 0) dX4_knowInCommon_48 (by decide) ?_
      obtain ⟨h28, hv⟩ := hv
      refine z_iastore dX4_knowInCommon_49 zn_69 zh_69 h28 (z_nmI (fun I30 e29 => ?_))
      have hv := hv I30 e29
      refine z_iinc (v2 := x3 + 1) (lv2 := [some (.ref 23), some (.ref p1), some (.ref p2), some (.int (x3 + 1)), some (.int (I b14 x3.toNatClampNeg))]) dX4_knowInCommon_50 rfl (by rfl) (by decide) rfl rfl ?_
      refine z_goto (tgt := 15) dX4_knowInCommon_53 (by decide) ?_
      exact z_sub (by exact ⟨rfl, ⟨rfl, ⟨rfl, ⟨rfl, trivial⟩⟩⟩⟩) hv
abbrev v_X4_knowInCommon (d : Nat) (Q : zQt) (p1 : Nat) (p2 : Nat) (I : zI) (L : zL) (P : zP) : Prop :=
  zMv zm_X4_linkGroups d [.ref 23, .ref p1] I L P (fun I1 L2 P3 =>
    zPk P3 ∧
    zMv zm_J7_fill_53178 d [.ref 69, .int 1] I1 L2 P3 (fun I7 L8 P9 =>
      gw_X4_knowInCommon (d + 1) Q 15 [some (.ref 23), some (.ref p1), some (.ref p2), some (.int 0), none] [] I7 L8 P9
    )
  )
set_option maxRecDepth 20000 in
theorem g_X4_knowInCommon {d : Nat} {Q : zQt} {p1 : Nat} {p2 : Nat} {I : zI} {L : zL} {P : zP} (hP : zPk P) (hv : v_X4_knowInCommon d Q p1 p2 I L P) : zM zm_X4_knowInCommon (d + 1) 0 0 [.ref 23, .ref p1, .ref p2] I L P 205 Q := by
  unfold v_X4_knowInCommon at hv
  refine zM_of (lv0 := [some (.ref 23), some (.ref p1), some (.ref p2), none, none]) (by decide +kernel) (Nat.le_of_ble_eq_true rfl) rfl ?_
  refine z_aload_n dX4_knowInCommon_0 rfl ?_
  refine z_aload_n dX4_knowInCommon_1 rfl ?_
  refine z_callV (As := [.ref p1]) (st := []) dX4_knowInCommon_2 zl_X4_146 zv_X4_linkGroups (by decide) rfl zn_23 zo_23 rfl rfl (Nat.le_of_ble_eq_true rfl) ⟨Nat.le_refl _, Nat.le_refl _⟩ ⟨Nat.le_refl _, Nat.le_refl _⟩ hv (fun v1 I1 L2 P3 nx1 q4 => ?_)
  obtain ⟨rfl, rfl, hv⟩ := q4
  refine z_aload_n dX4_knowInCommon_5 rfl ?_
  obtain ⟨h6, hv⟩ := hv
  refine z_getP dX4_knowInCommon_6 zf_X4_18 zn_23 zo_23 (fun _ _ _ _ _ => rfl) (h6 23 1 69 zp_23_1) ?_
  refine z_iconst (v := 1) dX4_knowInCommon_9 (by decide) ?_
  refine z_callS (As := [.ref 69, .int 1]) (st := []) dX4_knowInCommon_10 zl_X4_131 zs_J7_fill_53178 rfl rfl (Nat.le_of_ble_eq_true rfl) ⟨Nat.le_refl _, Nat.le_refl _⟩ ⟨Nat.le_refl _, Nat.le_refl _⟩ hv (fun v1 I7 L8 P9 nx1 q10 => ?_)
  obtain ⟨rfl, rfl, hv⟩ := q10
  refine z_iconst (v := 0) dX4_knowInCommon_13 (by decide) ?_
  refine z_istore_n (lv2 := [some (.ref 23), some (.ref p1), some (.ref p2), some (.int 0), none]) dX4_knowInCommon_14 (by decide) rfl rfl ?_
  exact hv
section KC
variable {d : Nat} {Q : zQt} {I0 : zI} {L : zL} {P : zP} {s l v r : Nat} {xs : List Nat} {lb : Nat → Nat}
theorem lp_X4_knowInCommon_58 (hP : zPk P) (hsc : sc s l v) (hr : 25 ≤ r ∧ r ≤ 68) (hS : cS s l I0 xs)
    (kk : ∀ I, cFr [71, r] I0 I → (∀ w ∈ xs, I r w = I0 69 (lb w)) → Q none I L P 205) :
    ∀ ys zs I, xs = zs ++ ys → cFr [71, r] I0 I → uf I lb → (∀ w ∈ zs, I r w = I0 69 (lb w)) →
      gw_X4_knowInCommon (d + 1) Q 58 [some (.ref 23), some (.ref s), some (.ref r), some (.int (nI zs.length)), none] [] I L P := by
  obtain ⟨p1, p2, p3, p4⟩ := sc_P hsc hP
  have hsc2 := hsc
  unfold sc at hsc2
  intro ys
  induction ys with
  | nil =>
    intro zs I e hf hu h1
    rw [List.append_nil] at e
    subst e
    have hS1 := cS_c hS (show I s 3 = I0 s 3 by rw [hf s (by simp only [List.mem_cons, List.not_mem_nil, or_false]; omega)]) (hf l (by simp only [List.mem_cons, List.not_mem_nil, or_false]; omega))
    exact g_X4_knowInCommon_58 hP ⟨p1, fun _ => kk I hf h1, fun q => absurd (cS_end hS1) q⟩
  | cons x ys ih =>
    intro zs I e hf hu h1
    have hS1 := cS_c hS (show I s 3 = I0 s 3 by rw [hf s (by simp only [List.mem_cons, List.not_mem_nil, or_false]; omega)]) (hf l (by simp only [List.mem_cons, List.not_mem_nil, or_false]; omega))
    obtain ⟨a1, a2, a3, a4, a5, a6, a7, a8, a9⟩ := cS_on hS1 e
    refine g_X4_knowInCommon_58 hP ⟨p1, fun q => absurd q a1, fun _ => ⟨l, p2, 256, p3, a2, ?_⟩⟩
    rw [a3]
    refine sp_X4_rootOf hP a4 hu (fun I1 c1 c2 => ⟨?_, 256, rw_s hr, a6, fun I2 e2 => ?_⟩)
    · exact nx_in (uf_lt hu a4).1 (by decide)
    · have := (uf_lt hu a4).1
      rw [a5, nI_cl (by omega), c1 69 (by simp), hf 69 (by simp only [List.mem_cons, List.not_mem_nil, or_false]; omega)] at e2
      subst e2
      rw [a8]
      refine ih (zs ++ [x]) _ (by rw [e, List.append_assoc]; rfl) (cFr_c (cFr_tr hf (cFr_wk c1 (by simp))) (by simp)) (uf_c c2 (zuI_ne (by omega))) (fun w hw => ?_)
      by_cases hgw : w = x
      · rw [hgw, zuI_v]
      · rw [zuI_o hgw, c1 r (by simp only [List.mem_cons, List.not_mem_nil, or_false]; omega)]
        rcases mem_snoc.mp hw with y | y
        · exact h1 w y
        · exact absurd y hgw
theorem lp_X4_knowInCommon_15 (hP : zPk P) (hsc : sc s l v) (hr : 25 ≤ r ∧ r ≤ 68) (hS : cS s l I0 xs)
    (kk : ∀ I, cFr [69, 71] I0 I → uf I lb → (∀ w ∈ xs, I 69 (lb w) = bP (∀ u ∈ xs, lb u = lb w → ¬ I0 r u = 0)) → gw_X4_knowInCommon (d + 1) Q 58 [some (.ref 23), some (.ref s), some (.ref r), some (.int 0), none] [] I L P) :
    ∀ ys zs I, xs = zs ++ ys → cFr [69, 71] I0 I → uf I lb → (∀ w ∈ xs, I 69 (lb w) = bP (∀ u ∈ zs, lb u = lb w → ¬ I0 r u = 0)) →
      gw_X4_knowInCommon (d + 1) Q 15 [some (.ref 23), some (.ref s), some (.ref r), some (.int (nI zs.length)), none] [] I L P := by
  obtain ⟨p1, p2, p3, p4⟩ := sc_P hsc hP
  have hsc2 := hsc
  unfold sc at hsc2
  intro ys
  induction ys with
  | nil =>
    intro zs I e hf hu h1
    rw [List.append_nil] at e
    subst e
    have hS1 := cS_c hS (show I s 3 = I0 s 3 by rw [hf s (by simp only [List.mem_cons, List.not_mem_nil, or_false]; omega)]) (hf l (by simp only [List.mem_cons, List.not_mem_nil, or_false]; omega))
    exact g_X4_knowInCommon_15 hP ⟨p1, fun _ => kk I hf hu h1, fun q => absurd (cS_end hS1) q⟩
  | cons x ys ih =>
    intro zs I e hf hu h1
    have hS1 := cS_c hS (show I s 3 = I0 s 3 by rw [hf s (by simp only [List.mem_cons, List.not_mem_nil, or_false]; omega)]) (hf l (by simp only [List.mem_cons, List.not_mem_nil, or_false]; omega))
    obtain ⟨a1, a2, a3, a4, a5, a6, a7, a8, a9⟩ := cS_on hS1 e
    have er : I r = I0 r := hf r (by simp only [List.mem_cons, List.not_mem_nil, or_false]; omega)
    have e' : xs = (zs ++ [x]) ++ ys := by rw [e, List.append_assoc]; rfl
    refine g_X4_knowInCommon_15 hP ⟨p1, fun q => absurd q a1, fun _ => ⟨l, p2, 256, p3, a2, 256, rw_s hr, by rw [a3]; exact a6, fun q => ?_, fun q => ?_⟩⟩
    · rw [a3, a5, er] at q
      rw [a8]
      refine ih (zs ++ [x]) I e' hf hu (fun w hw => ?_)
      rw [h1 w hw]
      refine bP_c ⟨fun z u hu hgu => ?_, fun z u hu => z u (mem_snoc.mpr (Or.inl hu))⟩
      rcases mem_snoc.mp hu with y | y
      · exact z u y hgu
      · rw [y]; exact q
    · rw [a3, a5, er] at q
      rw [a3]
      refine sp_X4_rootOf hP a4 hu (fun I1 c1 c2 => ⟨nx_in (uf_lt hu a4).1 (by decide), fun I2 e2 => ?_⟩)
      have := (uf_lt hu a4).1
      rw [nI_cl (by omega)] at e2
      subst e2
      rw [a8]
      refine ih (zs ++ [x]) _ e' (cFr_c (cFr_tr hf (cFr_wk c1 (by simp))) (by simp)) (uf_c c2 (zuI_ne (by decide))) (fun w hw => ?_)
      by_cases hgw : lb w = lb x
      · rw [hgw, zuI_v, bP_f (fun z => z x (mem_snoc.mpr (Or.inr rfl)) rfl q)]
      · rw [zuI_o hgw, c1 69 (by simp), h1 w hw]
        refine bP_c ⟨fun z u hu hgu => ?_, fun z u hu => z u (mem_snoc.mpr (Or.inl hu))⟩
        rcases mem_snoc.mp hu with y | y
        · exact z u y hgu
        · rw [y] at hgu; exact absurd hgu.symm hgw
end KC
theorem sp_X4_knowInCommon {d : Nat} {I : zI} {L : zL} {P : zP} {s l v r t np N : Nat} {xs : List Nat} {g : Nat → Nat → Nat} (hP : zPk P) (hsc : sc s l v) (hr : 25 ≤ r ∧ r ≤ 68) (hS : cS s l I xs) (hN : ∀ w ∈ xs, w < N) (ht : P s 1 = some t) (hH : iH t np I) (hg : ∀ p, p < np → cG v p I xs (g p)) (hd : 2 ≤ d) {K : zI → zL → zP → Prop}
    (kk : ∀ I', cFr [69, 70, 71, r] I I' → (∀ w ∈ xs, I' r w = bP (sCm np N (xo xs) (gk g) (I r) w)) → K I' L P) : zMv zm_X4_knowInCommon d [.ref 23, .ref s, .ref r] I L P K := by
  obtain ⟨d, rfl⟩ : ∃ e, d = e + 1 := ⟨d - 1, by omega⟩
  have hsc2 := hsc
  unfold sc at hsc2
  refine g_X4_knowInCommon hP (sp_X4_linkGroups hP hsc hS hN ht hH hg (by omega) (fun I1 lb f1 f2 f3 => ⟨hP, sp_fill hP (n := 256) ⟨by decide, rfl⟩ (by decide) (fun I2 f4 f5 => ?_)⟩))
  refine lp_X4_knowInCommon_15 (I0 := I2) (lb := lb) hP hsc hr (cS_c hS (by rw [f4 s (by simp only [List.mem_cons, List.not_mem_nil, or_false]; omega), f1 s (by simp only [List.mem_cons, List.not_mem_nil, or_false]; omega)]) (by rw [f4 l (by simp only [List.mem_cons, List.not_mem_nil, or_false]; omega), f1 l (by simp only [List.mem_cons, List.not_mem_nil, or_false]; omega)])) (fun I3 f6 f7 f8 => ?_) xs [] I2 rfl (cFr_rf _ _) (uf_c f2 (f4 71 (by simp))) (fun w hw => ?_)
  · refine lp_X4_knowInCommon_58 (I0 := I3) (lb := lb) hP hsc hr (cS_c hS (by rw [f6 s (by simp only [List.mem_cons, List.not_mem_nil, or_false]; omega), f4 s (by simp only [List.mem_cons, List.not_mem_nil, or_false]; omega), f1 s (by simp only [List.mem_cons, List.not_mem_nil, or_false]; omega)]) (by rw [f6 l (by simp only [List.mem_cons, List.not_mem_nil, or_false]; omega), f4 l (by simp only [List.mem_cons, List.not_mem_nil, or_false]; omega), f1 l (by simp only [List.mem_cons, List.not_mem_nil, or_false]; omega)])) (fun I4 f9 f10 => qv (kk I4 ?_ (fun w hw => ?_))) xs [] I3 rfl (cFr_rf _ _) f7 (fun w hw => absurd hw (by simp))
    · exact cFr_tr (cFr_wk f1 (by simp)) (cFr_tr (cFr_wk f4 (by simp)) (cFr_tr (cFr_wk f6 (by simp)) (cFr_wk f9 (by simp))))
    · rw [f10 w hw, f8 w hw, f4 r (by simp only [List.mem_cons, List.not_mem_nil, or_false]; omega), f1 r (by simp only [List.mem_cons, List.not_mem_nil, or_false]; omega)]
      exact bP_c ⟨fun z u _ hu hc => z u hu ((f3 w hw u hu).mpr hc).symm, fun z u hu he => z u (hN u hu) hu ((f3 w hw u hu).mp he.symm)⟩
  · have := uf_lt f2 (hS.2.2.1 w hw)
    rw [f5 (lb w) this.1, bP_t (fun u hu => absurd hu (by simp))]
