/-! ===== the class: hear, depth, sayings ===== -/
abbrev gw_X6_hear (d : Nat) (Q : zQt) (pc : Nat) (lv : zV) (st : List Value) (I : zI) (L : zL) (P : zP) : Prop := zW zm_X6_hear (zRm d 0 0) 0 0 Q pc lv st I L P 205 0 0
abbrev v_X6_hear (d : Nat) (Q : zQt) (a : Nat) (p1 : Nat) (I : zI) (L : zL) (P : zP) : Prop :=
  (a < 205 ∧ (zsh a).1 = 5) ∧
  ∃ b2 : Nat, P a 1 = some b2 ∧
  (b2 < 205 ∧ (zsh b2).1 = 2) ∧
  ∃ n6, (p1 < 205 ∧ zsh p1 = (100, n6)) ∧
  vp_in (I b2 1) n6 ∧
  (((I p1 (I b2 1).toNatClampNeg) = 0 →
    Q (some (.int (-1))) I L P 205
  ) ∧ (¬ (I p1 (I b2 1).toNatClampNeg) = 0 →
    zMi zm_X6_keepSo d [.ref a, .ref p1] I L P (fun r13 I9 L10 P11 =>
      Q (some (.int r13)) I9 L10 P11 205
    )
  ))
set_option maxRecDepth 20000 in
theorem g_X6_hear {d : Nat} {Q : zQt} {a : Nat} {p1 : Nat} {I : zI} {L : zL} {P : zP} (hP : zPk P) (hv : v_X6_hear d Q a p1 I L P) : zM zm_X6_hear (d + 1) 0 0 [.ref a, .ref p1] I L P 205 Q := by
  unfold v_X6_hear at hv
  refine zM_of (lv0 := [some (.ref a), some (.ref p1)]) (by decide +kernel) (Nat.le_of_ble_eq_true rfl) rfl ?_
  refine z_aload_n dX6_hear_0 rfl ?_
  refine z_aload_n dX6_hear_1 rfl ?_
  obtain ⟨h1, hv⟩ := hv
  obtain ⟨b2, h3, hv⟩ := hv
  refine z_getP dX6_hear_2 zf_X6_30 h1.1 h1.2 (fun _ _ _ _ _ => rfl) h3 ?_
  obtain ⟨h4, hv⟩ := hv
  refine z_getI dX6_hear_5 zf_X6_62 h4.1 h4.2 (fun _ _ _ _ _ => rfl) ?_
  obtain ⟨n6, h5, hv⟩ := hv
  obtain ⟨h7, hv⟩ := hv
  refine z_iaload dX6_hear_8 h5.1 h5.2 h7 ?_
  refine z_if_eq (tgt := 20) dX6_hear_9 (by decide) (fun q8 => ?_) (fun q8 => ?_)
  · have hv := hv.1 q8
    refine z_iconst (v := (-1)) dX6_hear_20 (by decide) ?_
    exact z_ireturn dX6_hear_21 rfl rfl (Nat.le_refl _) (Nat.le_refl _) hv
  · have hv := hv.2 q8
    refine z_aload_n dX6_hear_12 rfl ?_
    refine z_aload_n dX6_hear_13 rfl ?_
    refine z_callV (As := [.ref p1]) (st := []) dX6_hear_14 zl_X6_65 zv_X6_keepSo (by decide) rfl h1.1 h1.2 rfl rfl (Nat.le_of_ble_eq_true rfl) ⟨Nat.le_refl _, Nat.le_refl _⟩ ⟨Nat.le_refl _, Nat.le_refl _⟩ hv (fun v1 I9 L10 P11 nx1 q12 => ?_)
    obtain ⟨rfl, r13, rfl, hv⟩ := q12
    refine z_goto (tgt := 21) dX6_hear_17 (by decide) ?_
    exact z_ireturn dX6_hear_21 rfl rfl (Nat.le_refl _) (Nat.le_refl _) hv
theorem sp_X6_hear {d : Nat} {I : zI} {L : zL} {P : zP} {s l v t tw : Nat} {xs : List Nat} (hP : zPk P) (hsc : sc s l v) (hS : cS s l I xs) (ht : P s 1 = some t) (hi : il t) (hm : I t 1 = nI tw) (h256 : tw < 256) (hd : 1 ≤ d) {K : Int32 → zI → zL → zP → Prop}
    (k0 : I 25 tw = 0 → K (-1) I L P)
    (kk : ¬ I 25 tw = 0 → ∀ I', cFr [s, l] I I' → (∀ k, k ≠ 3 → I' s k = I s k) → cS s l I' (cK (fun w => ¬ I 25 w = 0) xs) → K (nI (xs.length - (cK (fun w => ¬ I 25 w = 0) xs).length)) I' L P) : zMi zm_X6_hear d [.ref s, .ref 25] I L P K := by
  obtain ⟨d, rfl⟩ : ∃ e, d = e + 1 := ⟨d - 1, by omega⟩
  obtain ⟨p1, p2, p3, p4⟩ := sc_P hsc hP
  have b1 := (il_P hi hP).1
  refine g_X6_hear hP ⟨p1, t, ht, b1, 256, ⟨by decide, rfl⟩, by rw [hm]; exact nx_in h256 (by decide), ?_⟩
  rw [hm, nI_cl (by omega)]
  exact ⟨fun q => qi (k0 q), fun q => sp_X6_keepSo hP hsc ⟨by decide, by decide⟩ hS (fun I' a b c => qi (kk q I' a b c))⟩
/-- the sayings of the island t: where they start, their codes -/
def iSy (t np : Nat) (I : zI) (ns : Nat) (b : Nat → Nat) (cd : Nat → Cd) : Prop := I t 4 = nI ns ∧ ns ≤ 6 ∧ I (t + 3) 1 = nI (b ns) ∧ b ns ≤ 600 ∧ ∀ i, i < ns → I (t + 5) i = nI (b i) ∧ I (t + 5) (i + 1) = nI (b (i + 1)) ∧ b (i + 1) = b i + (cd i).length ∧ b (i + 1) ≤ b ns ∧ cT (t + 3) I (b i) (cd i) ∧ (∀ x ∈ cd i, cE np x) ∧ eGd np (cMp (cd i))
theorem iSy_c {t np ns : Nat} {I I' : zI} {b : Nat → Nat} {cd : Nat → Cd} (h : iSy t np I ns b cd) (e0 : I' t = I t) (e3 : I' (t + 3) = I (t + 3)) (e4 : I' (t + 4) = I (t + 4)) (e5 : I' (t + 5) = I (t + 5)) : iSy t np I' ns b cd := by
  unfold iSy cT
  rw [e0, e3, e5, show t + 3 + 1 = t + 4 from rfl, e4]
  exact h
abbrev gw_X4_weighSaying (d : Nat) (Q : zQt) (pc : Nat) (lv : zV) (st : List Value) (I : zI) (L : zL) (P : zP) : Prop := zW zm_X4_weighSaying (zRm d 0 0) 0 0 Q pc lv st I L P 205 0 0
abbrev v_X4_weighSaying (d : Nat) (Q : zQt) (p1 : Nat) (p2 : Int32) (I : zI) (L : zL) (P : zP) : Prop :=
  (p1 < 205 ∧ (zsh p1).1 = 5) ∧
  ∃ b2 : Nat, P p1 1 = some b2 ∧
  ((p2 < 0 →
    Q none I L P 205
  ) ∧ (¬ p2 < 0 →
    (b2 < 205 ∧ (zsh b2).1 = 2) ∧
    (((I b2 4) ≤ p2 →
      Q none I L P 205
    ) ∧ (¬ (I b2 4) ≤ p2 →
      ∃ b7 : Nat, P b2 10 = some b7 ∧
      ∃ b9 : Nat, P b2 11 = some b9 ∧
      ∃ n12, (b9 < 205 ∧ zsh b9 = (100, n12)) ∧
      vp_in p2 n12 ∧
      vp_in (p2 + 1) n12 ∧
      zMv zm_X4_weigh d [.ref 23, .ref p1, .ref b7, .int (I b9 p2.toNatClampNeg), .int (I b9 (p2 + 1).toNatClampNeg)] I L P (fun I15 L16 P17 =>
        Q none I15 L16 P17 205
      )
    ))
  ))
set_option maxRecDepth 20000 in
theorem g_X4_weighSaying {d : Nat} {Q : zQt} {p1 : Nat} {p2 : Int32} {I : zI} {L : zL} {P : zP} (hP : zPk P) (hv : v_X4_weighSaying d Q p1 p2 I L P) : zM zm_X4_weighSaying (d + 1) 0 0 [.ref 23, .ref p1, .int p2] I L P 205 Q := by
  unfold v_X4_weighSaying at hv
  refine zM_of (lv0 := [some (.ref 23), some (.ref p1), some (.int p2), none]) (by decide +kernel) (Nat.le_of_ble_eq_true rfl) rfl ?_
  refine z_aload_n dX4_weighSaying_0 rfl ?_
  obtain ⟨h1, hv⟩ := hv
  obtain ⟨b2, h3, hv⟩ := hv
  refine z_getP dX4_weighSaying_1 zf_X4_35 h1.1 h1.2 (fun _ _ _ _ _ => rfl) h3 ?_
  refine z_astore_n (lv2 := [some (.ref 23), some (.ref p1), some (.int p2), some (.ref b2)]) dX4_weighSaying_4 (by decide) rfl rfl ?_
  refine z_iload_n dX4_weighSaying_5 rfl ?_
  refine z_if_lt (tgt := 40) dX4_weighSaying_6 (by decide) (fun q4 => ?_) (fun q4 => ?_)
  · have hv := hv.1 q4
    exact z_return dX4_weighSaying_40 rfl (Nat.le_refl _) (Nat.le_refl _) hv
  · have hv := hv.2 q4
    refine z_iload_n dX4_weighSaying_9 rfl ?_
    refine z_aload_n dX4_weighSaying_10 rfl ?_
    obtain ⟨h5, hv⟩ := hv
    refine z_getI dX4_weighSaying_11 zf_X4_41 h5.1 h5.2 (fun _ _ _ _ _ => rfl) ?_
    refine z_icmp_ge (tgt := 40) dX4_weighSaying_14 (by decide) (fun q6 => ?_) (fun q6 => ?_)
    · have hv := hv.1 q6
      exact z_return dX4_weighSaying_40 rfl (Nat.le_refl _) (Nat.le_refl _) hv
    · have hv := hv.2 q6
      refine z_aload_n dX4_weighSaying_17 rfl ?_
      refine z_aload_n dX4_weighSaying_18 rfl ?_
      refine z_aload_n dX4_weighSaying_19 rfl ?_
      obtain ⟨b7, h8, hv⟩ := hv
      refine z_getP dX4_weighSaying_20 zf_X4_44 h5.1 h5.2 (fun _ _ _ _ _ => rfl) h8 ?_
      refine z_aload_n dX4_weighSaying_23 rfl ?_
      obtain ⟨b9, h10, hv⟩ := hv
      refine z_getP dX4_weighSaying_24 zf_X4_48 h5.1 h5.2 (fun _ _ _ _ _ => rfl) h10 ?_
      refine z_iload_n dX4_weighSaying_27 rfl ?_
      obtain ⟨n12, h11, hv⟩ := hv
      obtain ⟨h13, hv⟩ := hv
      refine z_iaload dX4_weighSaying_28 h11.1 h11.2 h13 ?_
      refine z_aload_n dX4_weighSaying_29 rfl ?_
      refine z_getP dX4_weighSaying_30 zf_X4_48 h5.1 h5.2 (fun _ _ _ _ _ => rfl) h10 ?_
      refine z_iload_n dX4_weighSaying_33 rfl ?_
      refine z_iconst (v := 1) dX4_weighSaying_34 (by decide) ?_
      refine z_iadd dX4_weighSaying_35 ?_
      obtain ⟨h14, hv⟩ := hv
      refine z_iaload dX4_weighSaying_36 h11.1 h11.2 h14 ?_
      refine z_callV (As := [.ref p1, .ref b7, .int (I b9 p2.toNatClampNeg), .int (I b9 (p2 + 1).toNatClampNeg)]) (st := []) dX4_weighSaying_37 zl_X4_51 zv_X4_weigh (by decide) rfl zn_23 zo_23 rfl rfl (Nat.le_of_ble_eq_true rfl) ⟨Nat.le_refl _, Nat.le_refl _⟩ ⟨Nat.le_refl _, Nat.le_refl _⟩ hv (fun v1 I15 L16 P17 nx1 q18 => ?_)
      obtain ⟨rfl, rfl, hv⟩ := q18
      exact z_return dX4_weighSaying_40 rfl (Nat.le_refl _) (Nat.le_refl _) hv
theorem sp_X4_weighSaying {d : Nat} {I : zI} {L : zL} {P : zP} {s l v t np N ns i : Nat} {xs : List Nat} {g : Nat → Nat → Nat} {gn : Int32} {b : Nat → Nat} {cd : Nat → Cd} (hP : zPk P) (hW : wH P s l v t np N xs g I) (hY : iSy t np I ns b cd) (hi : i < ns) (hgn : I s 4 = gn) (hd : 4 ≤ d) {K : zI → zL → zP → Prop}
    (kk : ∀ I', wMf I I' → (∀ w ∈ xs, I' 25 w = eRun np N (xo xs) (gk g) gn (cMp (cd i)) 0 (fun _ _ => 0) 0 w) → K I' L P) : zMv zm_X4_weighSaying d [.ref 23, .ref s, .int (nI i)] I L P K := by
  obtain ⟨d, rfl⟩ : ∃ e, d = e + 1 := ⟨d - 1, by omega⟩
  obtain ⟨p1, p2, p3, p4⟩ := sc_P hW.1 hP
  have ht := hW.2.2.2.2.1
  have hil := hW.2.2.2.2.2.1.1
  obtain ⟨b1, b2, b3, b4, b5, b6⟩ := il_P hil hP
  obtain ⟨y1, y2, y3, y4, y5⟩ := hY
  obtain ⟨z1, z2, z3, z4, z5, z6, z7⟩ := y5 i hi
  have hco : co (t + 3) := by unfold il at hil; unfold co; omega
  refine g_X4_weighSaying hP ?_
  unfold v_X4_weighSaying
  rw [nI_1, nI_cl (show i < 2 ^ 31 by omega), nI_cl (show i + 1 < 2 ^ 31 by omega)]
  refine ⟨p1, t, ht, fun q => absurd q (nI_pos (by omega)), fun _ => ⟨b1, fun q => absurd q (by rw [y1]; exact nI_ge hi (by omega)), fun _ => ⟨t + 3, b4.1, t + 5, b6.1, 7, b6.2, nx_in (by omega) (by decide), nx_in (by omega) (by decide), ?_⟩⟩⟩
  rw [z1, z2, z3]
  exact sp_X4_weigh hP hW hco y3 y4 hgn (by omega) z5 z6 z7 (by omega) (fun I' a1 a2 => qv (kk I' a1 a2))
abbrev gw_X4_depth (d : Nat) (Q : zQt) (pc : Nat) (lv : zV) (st : List Value) (I : zI) (L : zL) (P : zP) : Prop := zW zm_X4_depth (zRm d 0 0) 0 0 Q pc lv st I L P 205 0 0
abbrev v_X4_depth_62 (d : Nat) (Q : zQt) (p1 : Nat) (x2 : Int32) (x5 : Int32) (I : zI) (L : zL) (P : zP) : Prop :=
  ((98 ≤ x5 →
    Q (some (.int 98)) I L P 205
  ) ∧ (¬ 98 ≤ x5 →
    zMv zm_X4_knowAll d [.ref 23, .ref p1, .ref 25] I L P (fun I17 L18 P19 =>
      vp_in x2 256 ∧
      ((¬ (I17 25 x2.toNatClampNeg) = 0 →
        gw_X4_depth (d + 1) Q 62 [some (.ref 23), some (.ref p1), some (.int x2), some (.ref 25), none, some (.int (x5 + 1))] [] I17 L18 P19
      ) ∧ ((I17 25 x2.toNatClampNeg) = 0 →
        Q (some (.int x5)) I17 L18 P19 205
      ))
    )
  ))
set_option maxRecDepth 20000 in
theorem g_X4_depth_62 {d : Nat} {Q : zQt} {p1 : Nat} {x2 : Int32} {x5 : Int32} {I : zI} {L : zL} {P : zP} (hP : zPk P) (hv : v_X4_depth_62 d Q p1 x2 x5 I L P) : gw_X4_depth (d + 1) Q 62 [some (.ref 23), some (.ref p1), some (.int x2), some (.ref 25), none, some (.int x5)] [] I L P := by
  unfold v_X4_depth_62 at hv
  refine z_iload dX4_depth_62 rfl ?_
  refine z_bipush (v := 98) dX4_depth_64 (by decide) ?_
  refine z_icmp_ge (tgt := 90) dX4_depth_66 (by decide) (fun q16 => ?_) (fun q16 => ?_)
  · have hv := hv.1 q16
    refine z_bipush (v := 98) dX4_depth_90 (by decide) ?_
    exact z_ireturn dX4_depth_92 rfl rfl (Nat.le_refl _) (Nat.le_refl _) hv
  · have hv := hv.2 q16
    refine z_aload_n dX4_depth_69 rfl ?_
    refine z_aload_n dX4_depth_70 rfl ?_
    refine z_aload_n dX4_depth_71 rfl ?_
    refine z_callV (As := [.ref p1, .ref 25]) (st := []) dX4_depth_72 zl_X4_89 zv_X4_knowAll (by decide) rfl zn_23 zo_23 rfl rfl (Nat.le_of_ble_eq_true rfl) ⟨Nat.le_refl _, Nat.le_refl _⟩ ⟨Nat.le_refl _, Nat.le_refl _⟩ hv (fun v1 I17 L18 P19 nx1 q20 => ?_)
    obtain ⟨rfl, rfl, hv⟩ := q20
    refine z_aload_n dX4_depth_75 rfl ?_
    refine z_iload_n dX4_depth_76 rfl ?_
    obtain ⟨h22, hv⟩ := hv
    refine z_iaload dX4_depth_77 zn_25 zh_25 h22 ?_
    refine z_if_ne (tgt := 84) dX4_depth_78 (by decide) (fun q23 => ?_) (fun q23 => ?_)
    · have hv := hv.1 q23
      refine z_iinc (v2 := x5 + 1) (lv2 := [some (.ref 23), some (.ref p1), some (.int x2), some (.ref 25), none, some (.int (x5 + 1))]) dX4_depth_84 rfl (by rfl) (by decide) rfl rfl ?_
      refine z_goto (tgt := 62) dX4_depth_87 (by decide) ?_
      exact hv
    · have hv := hv.2 q23
      refine z_iload dX4_depth_81 rfl ?_
      exact z_ireturn dX4_depth_83 rfl rfl (Nat.le_refl _) (Nat.le_refl _) hv
abbrev v_X4_depth (d : Nat) (Q : zQt) (p1 : Nat) (I : zI) (L : zL) (P : zP) : Prop :=
  (p1 < 205 ∧ (zsh p1).1 = 5) ∧
  ∃ b2 : Nat, P p1 1 = some b2 ∧
  (b2 < 205 ∧ (zsh b2).1 = 2) ∧
  vp_in (I b2 1) 256 ∧
  ((¬ (I 25 (I b2 1).toNatClampNeg) = 0 →
    (¬ (0 : Int32) < 0 ∧ ¬ (0 : Int32) < 0 ∧ ¬ (256 : Int32) < 0 ∧ (0 : Int32).toNatClampNeg + (256 : Int32).toNatClampNeg ≤ 256 ∧ (0 : Int32).toNatClampNeg + (256 : Int32).toNatClampNeg ≤ 256) ∧
    ∀ I8 : zI, I8 = zaI I 26 (va_cpy (I 25) (I 26) (0 : Int32).toNatClampNeg (0 : Int32).toNatClampNeg (256 : Int32).toNatClampNeg) →
    zMv zm_X4_knowInCommon d [.ref 23, .ref p1, .ref 26] I8 L P (fun I10 L11 P12 =>
      (((I10 26 (I b2 1).toNatClampNeg) = 0 →
        gw_X4_depth (d + 1) Q 62 [some (.ref 23), some (.ref p1), some (.int (I b2 1)), some (.ref 25), none, some (.int 0)] [] I10 L11 P12
      ) ∧ (¬ (I10 26 (I b2 1).toNatClampNeg) = 0 →
        Q (some (.int 99)) I10 L11 P12 205
      ))
    )
  ) ∧ ((I 25 (I b2 1).toNatClampNeg) = 0 →
    Q (some (.int (-1))) I L P 205
  ))
set_option maxRecDepth 20000 in
theorem g_X4_depth {d : Nat} {Q : zQt} {p1 : Nat} {I : zI} {L : zL} {P : zP} (hP : zPk P) (hv : v_X4_depth d Q p1 I L P) : zM zm_X4_depth (d + 1) 0 0 [.ref 23, .ref p1] I L P 205 Q := by
  unfold v_X4_depth at hv
  refine zM_of (lv0 := [some (.ref 23), some (.ref p1), none, none, none, none]) (by decide +kernel) (Nat.le_of_ble_eq_true rfl) rfl ?_
  refine z_aload_n dX4_depth_0 rfl ?_
  obtain ⟨h1, hv⟩ := hv
  obtain ⟨b2, h3, hv⟩ := hv
  refine z_getP dX4_depth_1 zf_X4_35 h1.1 h1.2 (fun _ _ _ _ _ => rfl) h3 ?_
  obtain ⟨h4, hv⟩ := hv
  refine z_getI dX4_depth_4 zf_X4_162 h4.1 h4.2 (fun _ _ _ _ _ => rfl) ?_
  refine z_istore_n (lv2 := [some (.ref 23), some (.ref p1), some (.int (I b2 1)), none, none, none]) dX4_depth_7 (by decide) rfl rfl ?_
  refine z_aload_n dX4_depth_8 rfl ?_
  refine z_getP dX4_depth_9 zf_X4_15 zn_23 zo_23 (fun _ _ _ _ _ => rfl) (hP 23 0 24 zp_23_0) ?_
  refine z_iconst (v := 0) dX4_depth_12 (by decide) ?_
  refine z_aaload dX4_depth_13 zn_24 zh_24 (Or.inl rfl) (by unfold vp_in; decide) (hP 24 0 25 zp_24_0) ?_
  refine z_astore_n (lv2 := [some (.ref 23), some (.ref p1), some (.int (I b2 1)), some (.ref 25), none, none]) dX4_depth_14 (by decide) rfl rfl ?_
  refine z_aload_n dX4_depth_15 rfl ?_
  refine z_getP dX4_depth_16 zf_X4_15 zn_23 zo_23 (fun _ _ _ _ _ => rfl) (hP 23 0 24 zp_23_0) ?_
  refine z_iconst (v := 1) dX4_depth_19 (by decide) ?_
  refine z_aaload dX4_depth_20 zn_24 zh_24 (Or.inl rfl) (by unfold vp_in; decide) (hP 24 1 26 zp_24_1) ?_
  refine z_astore (lv2 := [some (.ref 23), some (.ref p1), some (.int (I b2 1)), some (.ref 25), some (.ref 26), none]) dX4_depth_21 (by decide) rfl rfl ?_
  refine z_aload_n dX4_depth_23 rfl ?_
  refine z_iload_n dX4_depth_24 rfl ?_
  obtain ⟨h5, hv⟩ := hv
  refine z_iaload dX4_depth_25 zn_25 zh_25 h5 ?_
  refine z_if_ne (tgt := 31) dX4_depth_26 (by decide) (fun q6 => ?_) (fun q6 => ?_)
  · have hv := hv.1 q6
    refine z_aload_n dX4_depth_31 rfl ?_
    refine z_iconst (v := 0) dX4_depth_32 (by decide) ?_
    refine z_aload dX4_depth_33 rfl ?_
    refine z_iconst (v := 0) dX4_depth_35 (by decide) ?_
    refine z_sipush (v := 256) dX4_depth_36 (by decide) ?_
    obtain ⟨h7, hv⟩ := hv
    refine z_copyI dX4_depth_39 zl_X4_140 rfl zn_25 zn_26 zh_25 zh_26 h7.1 h7.2.1 h7.2.2.1 h7.2.2.2.1 h7.2.2.2.2 (Nat.le_of_ble_eq_true rfl) ⟨Nat.le_add_left _ _, zr64 _⟩ (z_nmI (fun I8 e9 => ?_))
    have hv := hv I8 e9
    refine z_aload_n dX4_depth_42 rfl ?_
    refine z_aload_n dX4_depth_43 rfl ?_
    refine z_aload dX4_depth_44 rfl ?_
    refine z_callV (As := [.ref p1, .ref 26]) (st := []) dX4_depth_46 zl_X4_92 zv_X4_knowInCommon (by decide) rfl zn_23 zo_23 rfl rfl (Nat.le_of_ble_eq_true rfl) ⟨Nat.le_refl _, Nat.le_refl _⟩ ⟨Nat.le_refl _, Nat.le_refl _⟩ hv (fun v1 I10 L11 P12 nx1 q13 => ?_)
    obtain ⟨rfl, rfl, hv⟩ := q13
    refine z_aload dX4_depth_49 rfl ?_
    refine z_iload_n dX4_depth_51 rfl ?_
    refine z_iaload dX4_depth_52 zn_26 zh_26 h5 ?_
    refine z_if_eq (tgt := 59) dX4_depth_53 (by decide) (fun q15 => ?_) (fun q15 => ?_)
    · have hv := hv.1 q15
      refine z_iconst (v := 0) dX4_depth_59 (by decide) ?_
      refine z_istore (lv2 := [some (.ref 23), some (.ref p1), some (.int (I b2 1)), some (.ref 25), some (.ref 26), some (.int 0)]) dX4_depth_60 (by decide) rfl rfl ?_
      exact z_sub (by exact ⟨rfl, ⟨rfl, ⟨rfl, ⟨rfl, ⟨rfl, trivial⟩⟩⟩⟩⟩) hv
    · have hv := hv.2 q15
      refine z_bipush (v := 99) dX4_depth_56 (by decide) ?_
      exact z_ireturn dX4_depth_58 rfl rfl (Nat.le_refl _) (Nat.le_refl _) hv
  · have hv := hv.2 q6
    refine z_iconst (v := (-1)) dX4_depth_29 (by decide) ?_
    exact z_ireturn dX4_depth_30 rfl rfl (Nat.le_refl _) (Nat.le_refl _) hv
/-- all know, again and again -/
noncomputable def aKn (np N : Nat) (po : Nat → Prop) (lk : Nat → Nat → Nat → Prop) (r : Nat → Int32) : Nat → Nat → Int32
  | 0 => r
  | k + 1 => fun w => bP (po w ∧ sAl np N po lk (aKn np N po lk r k) w)
theorem sp_X4_depth {d : Nat} {I : zI} {L : zL} {P : zP} {s l v t np N tw : Nat} {xs : List Nat} {g : Nat → Nat → Nat} (hP : zPk P) (hW : wH P s l v t np N xs g I) (hm : I t 1 = nI tw) (hw : tw ∈ xs) (hd : 3 ≤ d) {K : Int32 → zI → zL → zP → Prop}
    (k0 : I 25 tw = 0 → K (-1) I L P)
    (k1 : ¬ I 25 tw = 0 → sCm np N (xo xs) (gk g) (I 25) tw → ∀ I', wMf I I' → K 99 I' L P)
    (k2 : ¬ I 25 tw = 0 → ¬ sCm np N (xo xs) (gk g) (I 25) tw → ∀ m, m < 98 → (∀ j, j ≤ m → ¬ aKn np N (xo xs) (gk g) (I 25) j tw = 0) → aKn np N (xo xs) (gk g) (I 25) (m + 1) tw = 0 → ∀ I', wMf I I' → K (nI m) I' L P)
    (k3 : ¬ I 25 tw = 0 → ¬ sCm np N (xo xs) (gk g) (I 25) tw → (∀ j, j ≤ 98 → ¬ aKn np N (xo xs) (gk g) (I 25) j tw = 0) → ∀ I', wMf I I' → K 98 I' L P) : zMi zm_X4_depth d [.ref 23, .ref s] I L P K := by
  obtain ⟨d, rfl⟩ : ∃ e, d = e + 1 := ⟨d - 1, by omega⟩
  obtain ⟨w1, w2, w3, w4, w5, w6, w7⟩ := hW
  have hW : wH P s l v t np N xs g I := ⟨w1, w2, w3, w4, w5, w6, w7⟩
  obtain ⟨p1, p2, p3, p4⟩ := sc_P w1 hP
  have b1 := (il_P w6.1 hP).1
  have h256 := w2.2.2.1 tw hw
  have ct : (nI tw).toNatClampNeg = tw := nI_cl (by omega)
  have key : ¬ I 25 tw = 0 → ¬ sCm np N (xo xs) (gk g) (I 25) tw → ∀ m i J, i + m = 98 → wMf I J → (∀ w ∈ xs, J 25 w = aKn np N (xo xs) (gk g) (I 25) i w) → (∀ j, j ≤ i → ¬ aKn np N (xo xs) (gk g) (I 25) j tw = 0) → gw_X4_depth (d + 1) (fun v I' L' P' nx' => nx' = 205 ∧ ∃ r, v = some (.int r) ∧ K r I' L' P') 62 [some (.ref 23), some (.ref s), some (.int (nI tw)), some (.ref 25), none, some (.int (nI i))] [] J L P := by
    intro n0 n1 m
    induction m with
    | zero =>
      intro i J hi hf hJ hj
      have : i = 98 := by omega
      subst this
      exact g_X4_depth_62 hP ⟨fun _ => qi (k3 n0 n1 hj J hf), fun q => absurd (by decide) q⟩
    | succ m ih =>
      intro i J hi hf hJ hj
      obtain ⟨-, x2, x3, x4, x5, x6, x7⟩ := wH_w hW hf
      refine g_X4_depth_62 hP ⟨fun q => absurd q (by rw [show (98 : Int32) = nI 98 from rfl]; exact nI_ge (by omega) (by decide)), fun _ => ?_⟩
      refine sp_X4_knowAll hP w1 ⟨by decide, by decide⟩ x2 x3 x5 x6 x7 (by omega) (fun J1 f1 f2 => ⟨nx_in h256 (by decide), ?_⟩)
      have f3 : ∀ w ∈ xs, J1 25 w = aKn np N (xo xs) (gk g) (I 25) (i + 1) w := by
        intro w hw
        rw [f2 w hw]
        show _ = bP (xo xs w ∧ sAl np N (xo xs) (gk g) (aKn np N (xo xs) (gk g) (I 25) i) w)
        refine bP_c ⟨fun z => ⟨hw, fun p hp u _ hu hgu => ?_⟩, fun z p hp u hu hgu => ?_⟩
        · rw [← hJ u hu]; exact z p hp u hu hgu
        · rw [hJ u hu]; exact z.2 p hp u (w4 u hu) hu hgu
      have f4 : wMf I J1 := wMf_tr hf (wMf_of f1 (by simp))
      rw [ct, f3 tw hw]
      refine ⟨fun q => ?_, fun q => qi (k2 n0 n1 i (by omega) hj q J1 f4)⟩
      rw [nI_1]
      refine ih (i + 1) J1 (by omega) f4 f3 (fun j hj2 => ?_)
      by_cases e : j = i + 1
      · rw [e]; exact q
      · exact hj j (by omega)
  refine g_X4_depth hP ⟨p1, t, w5, b1, ?_⟩
  rw [hm, ct]
  refine ⟨nx_in h256 (by decide), fun q => ⟨by decide, fun I1 e1 => ?_⟩, fun q => qi (k0 q)⟩
  have e26 : ∀ w, w < 256 → I1 26 w = I 25 w := by
    intro w hw
    rw [e1, zaI_at, pk_cpy_in (by show 0 ≤ w; omega) (by show w < 0 + 256; omega)]
    show I 25 (0 + (w - 0)) = _
    rw [Nat.zero_add, Nat.sub_zero]
  have f1 : wMf I I1 := by rw [e1]; exact fun a ha => zaI_ne (by omega)
  obtain ⟨-, x2, x3, x4, x5, x6, x7⟩ := wH_w hW f1
  refine sp_X4_knowInCommon (r := 26) hP w1 ⟨by decide, by decide⟩ x2 x4 x5 x6 x7 (by omega) (fun I2 f2 f3 => ?_)
  have f4 : wMf I I2 := wMf_tr f1 (wMf_of f2 (by simp))
  have ec : sCm np N (xo xs) (gk g) (I1 26) tw ↔ sCm np N (xo xs) (gk g) (I 25) tw := sCm_c (fun u _ hu => by rw [e26 u (w2.2.2.1 u hu)])
  rw [f3 tw hw, bP_0, ec]
  refine ⟨fun z => ?_, fun z => qi (k1 q (Classical.not_not.mp z) I2 f4)⟩
  refine key q z 98 0 I2 rfl f4 (fun w hw => ?_) (fun j hj => ?_)
  · show I2 25 w = I 25 w
    rw [f2 25 (by simp), e1, zaI_ne (by decide)]
  · have : j = 0 := by omega
    subst this; exact q
