/-! ===== the class: views ===== -/
abbrev gw_X10_of (d : Nat) (Q : zQt) (pc : Nat) (lv : zV) (st : List Value) (I : zI) (L : zL) (P : zP) : Prop := zW zm_X10_of (zRm d 0 0) 0 0 Q pc lv st I L P 205 0 0
abbrev v_X10_of (d : Nat) (Q : zQt) (a : Nat) (p1 : Int32) (I : zI) (L : zL) (P : zP) : Prop :=
  (a < 205 ∧ (zsh a).1 = 9) ∧
  ∃ b2 : Nat, P a 0 = some b2 ∧
  ((p1 < 0 →
    ∃ n6, (b2 < 205 ∧ zsh b2 = (104, n6)) ∧
    vp_in 0 n6 ∧
    ∃ b8 : Nat, P b2 0 = some b8 ∧
    Q (some (.ref b8)) I L P 205
  ) ∧ (¬ p1 < 0 →
    ((8 ≤ p1 →
      ∃ n12, (b2 < 205 ∧ zsh b2 = (104, n12)) ∧
      vp_in 0 n12 ∧
      ∃ b14 : Nat, P b2 0 = some b14 ∧
      Q (some (.ref b14)) I L P 205
    ) ∧ (¬ 8 ≤ p1 →
      ∃ n17, (b2 < 205 ∧ zsh b2 = (104, n17)) ∧
      vp_in p1 n17 ∧
      ∃ b19 : Nat, P b2 p1.toNatClampNeg = some b19 ∧
      Q (some (.ref b19)) I L P 205
    ))
  ))
set_option maxRecDepth 20000 in
theorem g_X10_of {d : Nat} {Q : zQt} {a : Nat} {p1 : Int32} {I : zI} {L : zL} {P : zP} (hP : zPk P) (hv : v_X10_of d Q a p1 I L P) : zM zm_X10_of d 0 0 [.ref a, .int p1] I L P 205 Q := by
  unfold v_X10_of at hv
  refine zM_of (lv0 := [some (.ref a), some (.int p1)]) (by decide +kernel) (Nat.le_of_ble_eq_true rfl) rfl ?_
  refine z_aload_n dX10_of_0 rfl ?_
  obtain ⟨h1, hv⟩ := hv
  obtain ⟨b2, h3, hv⟩ := hv
  refine z_getP dX10_of_1 zf_X10_13 h1.1 h1.2 (fun _ _ _ _ _ => rfl) h3 ?_
  refine z_iload_n dX10_of_4 rfl ?_
  refine z_if_lt (tgt := 18) dX10_of_5 (by decide) (fun q4 => ?_) (fun q4 => ?_)
  · have hv := hv.1 q4
    refine z_iconst (v := 0) dX10_of_18 (by decide) ?_
    obtain ⟨n6, h5, hv⟩ := hv
    obtain ⟨h7, hv⟩ := hv
    obtain ⟨b8, h9, hv⟩ := hv
    refine z_aaload dX10_of_19 h5.1 h5.2 (Or.inl rfl) h7 h9 ?_
    exact z_areturn dX10_of_20 rfl (Nat.le_refl _) (Nat.le_refl _) hv
  · have hv := hv.2 q4
    refine z_iload_n dX10_of_8 rfl ?_
    refine z_bipush (v := 8) dX10_of_9 (by decide) ?_
    refine z_icmp_ge (tgt := 18) dX10_of_11 (by decide) (fun q10 => ?_) (fun q10 => ?_)
    · have hv := hv.1 q10
      refine z_iconst (v := 0) dX10_of_18 (by decide) ?_
      obtain ⟨n12, h11, hv⟩ := hv
      obtain ⟨h13, hv⟩ := hv
      obtain ⟨b14, h15, hv⟩ := hv
      refine z_aaload dX10_of_19 h11.1 h11.2 (Or.inl rfl) h13 h15 ?_
      exact z_areturn dX10_of_20 rfl (Nat.le_refl _) (Nat.le_refl _) hv
    · have hv := hv.2 q10
      refine z_iload_n dX10_of_14 rfl ?_
      refine z_goto (tgt := 19) dX10_of_15 (by decide) ?_
      obtain ⟨n17, h16, hv⟩ := hv
      obtain ⟨h18, hv⟩ := hv
      obtain ⟨b19, h20, hv⟩ := hv
      refine z_aaload dX10_of_19 h16.1 h16.2 (Or.inl rfl) h18 h20 ?_
      exact z_areturn dX10_of_20 rfl (Nat.le_refl _) (Nat.le_refl _) hv
theorem sp_X10_of {d v : Nat} {I : zI} {L : zL} {P : zP} {x : Int32} (hP : zPk P) (hv : vw v) (h : vp_in x 8) {K : Nat → zI → zL → zP → Prop} (k : K (v + 2 + x.toNatClampNeg) I L P) : zMr zm_X10_of d [.ref v, .int x] I L P K := by
  obtain ⟨p, hp, rfl⟩ := vp_in_of h (by decide)
  rw [nI_cl (by omega)] at k
  obtain ⟨a1, a2, a3, a4, a5, a6⟩ := vw_P hv hP
  refine g_X10_of hP ⟨a1, v + 1, a2, fun q => absurd q (nI_pos (by omega)), fun _ => ⟨fun q => absurd q ?_, fun _ => ⟨8, a3, h, v + 2 + p, ?_, qr k⟩⟩⟩
  · rw [show (8 : Int32) = nI 8 from rfl]; exact nI_ge hp (by decide)
  · rw [nI_cl (by omega)]; exact (a6 p hp).1
abbrev gw_X10_areAlike (d : Nat) (Q : zQt) (pc : Nat) (lv : zV) (st : List Value) (I : zI) (L : zL) (P : zP) : Prop := zW zm_X10_areAlike (zRm d 0 0) 0 0 Q pc lv st I L P 205 0 0
abbrev v_X10_areAlike (d : Nat) (Q : zQt) (a : Nat) (p1 : Int32) (p2 : Int32) (p3 : Int32) (I : zI) (L : zL) (P : zP) : Prop :=
  (a < 205 ∧ (zsh a).1 = 9) ∧
  vw a ∧
  vp_in p1 8 ∧
  ∃ n7, (a + 2 + (p1 : Int32).toNatClampNeg < 205 ∧ zsh (a + 2 + (p1 : Int32).toNatClampNeg) = (100, n7)) ∧
  vp_in p2 n7 ∧
  vp_in p3 n7 ∧
  ((¬ (I (a + 2 + (p1 : Int32).toNatClampNeg) p2.toNatClampNeg) = (I (a + 2 + (p1 : Int32).toNatClampNeg) p3.toNatClampNeg) →
    Q (some (.int 0)) I L P 205
  ) ∧ ((I (a + 2 + (p1 : Int32).toNatClampNeg) p2.toNatClampNeg) = (I (a + 2 + (p1 : Int32).toNatClampNeg) p3.toNatClampNeg) →
    Q (some (.int 1)) I L P 205
  ))
set_option maxRecDepth 20000 in
theorem g_X10_areAlike {d : Nat} {Q : zQt} {a : Nat} {p1 : Int32} {p2 : Int32} {p3 : Int32} {I : zI} {L : zL} {P : zP} (hP : zPk P) (hv : v_X10_areAlike d Q a p1 p2 p3 I L P) : zM zm_X10_areAlike (d + 1) 0 0 [.ref a, .int p1, .int p2, .int p3] I L P 205 Q := by
  unfold v_X10_areAlike at hv
  refine zM_of (lv0 := [some (.ref a), some (.int p1), some (.int p2), some (.int p3)]) (by decide +kernel) (Nat.le_of_ble_eq_true rfl) rfl ?_
  refine z_aload_n dX10_areAlike_0 rfl ?_
  refine z_iload_n dX10_areAlike_1 rfl ?_
  obtain ⟨h1, hv⟩ := hv
  obtain ⟨h2, hv⟩ := hv
  obtain ⟨h3, hv⟩ := hv
  refine z_callV (As := [.int p1]) (st := []) dX10_areAlike_2 zl_X10_33 zv_X10_of (by decide) rfl h1.1 h1.2 rfl rfl (Nat.le_of_ble_eq_true rfl) ⟨Nat.le_refl _, Nat.le_refl _⟩ ⟨Nat.le_refl _, Nat.le_refl _⟩ (sp_X10_of hP h2 h3 (K := fun r I' L' P' => a + 2 + (p1 : Int32).toNatClampNeg = r ∧ I = I' ∧ L = L' ∧ P = P') ⟨rfl, rfl, rfl, rfl⟩) (fun v1 I2 L2 P2 nx1 q5 => ?_)
  obtain ⟨rfl, r4, rfl, rfl, rfl, rfl, rfl⟩ := q5
  refine z_iload_n dX10_areAlike_5 rfl ?_
  obtain ⟨n7, h6, hv⟩ := hv
  obtain ⟨h8, hv⟩ := hv
  refine z_iaload dX10_areAlike_6 h6.1 h6.2 h8 ?_
  refine z_aload_n dX10_areAlike_7 rfl ?_
  refine z_iload_n dX10_areAlike_8 rfl ?_
  refine z_callV (As := [.int p1]) (st := [.int (I (a + 2 + (p1 : Int32).toNatClampNeg) p2.toNatClampNeg)]) dX10_areAlike_9 zl_X10_33 zv_X10_of (by decide) rfl h1.1 h1.2 rfl rfl (Nat.le_of_ble_eq_true rfl) ⟨Nat.le_refl _, Nat.le_refl _⟩ ⟨Nat.le_refl _, Nat.le_refl _⟩ (sp_X10_of hP h2 h3 (K := fun r I' L' P' => a + 2 + (p1 : Int32).toNatClampNeg = r ∧ I = I' ∧ L = L' ∧ P = P') ⟨rfl, rfl, rfl, rfl⟩) (fun v1 I2 L2 P2 nx1 q10 => ?_)
  obtain ⟨rfl, r9, rfl, rfl, rfl, rfl, rfl⟩ := q10
  refine z_iload_n dX10_areAlike_12 rfl ?_
  obtain ⟨h11, hv⟩ := hv
  refine z_iaload dX10_areAlike_13 h6.1 h6.2 h11 ?_
  refine z_icmp_ne (tgt := 21) dX10_areAlike_14 (by decide) (fun q12 => ?_) (fun q12 => ?_)
  · have hv := hv.1 q12
    refine z_iconst (v := 0) dX10_areAlike_21 (by decide) ?_
    exact z_ireturn dX10_areAlike_22 rfl (by decide) (Nat.le_refl _) (Nat.le_refl _) hv
  · have hv := hv.2 q12
    refine z_iconst (v := 1) dX10_areAlike_17 (by decide) ?_
    refine z_goto (tgt := 22) dX10_areAlike_18 (by decide) ?_
    exact z_ireturn dX10_areAlike_22 rfl (by decide) (Nat.le_refl _) (Nat.le_refl _) hv
theorem sp_X10_areAlike {d v p a b : Nat} {I : zI} {L : zL} {P : zP} (hP : zPk P) (hv : vw v) (hp : p < 8) (ha : a < 256) (hb : b < 256) (hd : 1 ≤ d) {K : Int32 → zI → zL → zP → Prop} (k : K (bP (I (v + 2 + p) a = I (v + 2 + p) b)) I L P) : zMi zm_X10_areAlike d [.ref v, .int (nI p), .int (nI a), .int (nI b)] I L P K := by
  obtain ⟨d, rfl⟩ : ∃ e, d = e + 1 := ⟨d - 1, by omega⟩
  obtain ⟨a1, a2, a3, a4, a5, a6⟩ := vw_P hv hP
  refine g_X10_areAlike hP ?_
  unfold v_X10_areAlike
  rw [nI_cl (show p < 2 ^ 31 by omega), nI_cl (show a < 2 ^ 31 by omega), nI_cl (show b < 2 ^ 31 by omega)]
  refine ⟨a1, hv, nx_in hp (by decide), 256, (a6 p hp).2, nx_in ha (by decide), nx_in hb (by decide), fun q => qi ?_, fun q => qi ?_⟩
  · rwa [bP_f q] at k
  · rwa [bP_t q] at k
abbrev gw_J7_fill_53178 (d : Nat) (Q : zQt) (pc : Nat) (lv : zV) (st : List Value) (I : zI) (L : zL) (P : zP) : Prop := zW zm_J7_fill_53178 (zRm d 0 0) 0 0 Q pc lv st I L P 205 0 0
abbrev v_J7_fill_53178_5 (d : Nat) (Q : zQt) (p1 : Nat) (p2 : Int32) (x2 : Int32) (x3 : Int32) (I : zI) (L : zL) (P : zP) : Prop :=
  ((x3 ≤ x2 →
    Q none I L P 205
  ) ∧ (¬ x3 ≤ x2 →
    ∃ n5, (p1 < 205 ∧ zsh p1 = (100, n5)) ∧
    vp_in x2 n5 ∧
    ∀ I8 : zI, I8 = zuI I p1 x2.toNatClampNeg p2 →
    gw_J7_fill_53178 d Q 5 [some (.ref p1), some (.int p2), some (.int (x2 + 1)), some (.int x3)] [] I8 L P
  ))
set_option maxRecDepth 20000 in
theorem g_J7_fill_53178_5 {d : Nat} {Q : zQt} {p1 : Nat} {p2 : Int32} {x2 : Int32} {x3 : Int32} {I : zI} {L : zL} {P : zP} (hP : zPk P) (hv : v_J7_fill_53178_5 d Q p1 p2 x2 x3 I L P) : gw_J7_fill_53178 d Q 5 [some (.ref p1), some (.int p2), some (.int x2), some (.int x3)] [] I L P := by
  unfold v_J7_fill_53178_5 at hv
  refine z_iload_n dJ7_fill_53178_5 rfl ?_
  refine z_iload_n dJ7_fill_53178_6 rfl ?_
  refine z_icmp_ge (tgt := 20) dJ7_fill_53178_7 (by decide) (fun q3 => ?_) (fun q3 => ?_)
  · have hv := hv.1 q3
    exact z_return dJ7_fill_53178_20 rfl (Nat.le_refl _) (Nat.le_refl _) hv
  · have hv := hv.2 q3
    refine z_aload_n dJ7_fill_53178_10 rfl ?_
    refine z_iload_n dJ7_fill_53178_11 rfl ?_
    refine z_iload_n dJ7_fill_53178_12 rfl ?_
    obtain ⟨n5, h4, hv⟩ := hv
    obtain ⟨h6, hv⟩ := hv
    refine z_iastore dJ7_fill_53178_13 h4.1 h4.2 h6 (z_nmI (fun I8 e7 => ?_))
    have hv := hv I8 e7
    refine z_iinc (v2 := x2 + 1) (lv2 := [some (.ref p1), some (.int p2), some (.int (x2 + 1)), some (.int x3)]) dJ7_fill_53178_14 rfl (by rfl) (by decide) rfl rfl ?_
    refine z_goto (tgt := 5) dJ7_fill_53178_17 (by decide) ?_
    exact hv
abbrev v_J7_fill_53178 (d : Nat) (Q : zQt) (p1 : Nat) (p2 : Int32) (I : zI) (L : zL) (P : zP) : Prop :=
  ∃ n2, (p1 < 205 ∧ zsh p1 = (100, n2)) ∧
  gw_J7_fill_53178 d Q 5 [some (.ref p1), some (.int p2), some (.int 0), some (.int (Int32.ofNat n2))] [] I L P
set_option maxRecDepth 20000 in
theorem g_J7_fill_53178 {d : Nat} {Q : zQt} {p1 : Nat} {p2 : Int32} {I : zI} {L : zL} {P : zP} (hP : zPk P) (hv : v_J7_fill_53178 d Q p1 p2 I L P) : zM zm_J7_fill_53178 d 0 0 [.ref p1, .int p2] I L P 205 Q := by
  unfold v_J7_fill_53178 at hv
  refine zM_of (lv0 := [some (.ref p1), some (.int p2), none, none]) (by decide +kernel) (Nat.le_of_ble_eq_true rfl) rfl ?_
  refine z_iconst (v := 0) dJ7_fill_53178_0 (by decide) ?_
  refine z_istore_n (lv2 := [some (.ref p1), some (.int p2), some (.int 0), none]) dJ7_fill_53178_1 (by decide) rfl rfl ?_
  refine z_aload_n dJ7_fill_53178_2 rfl ?_
  obtain ⟨n2, h1, hv⟩ := hv
  refine z_alenI dJ7_fill_53178_3 h1.1 h1.2 (Or.inl rfl) rfl ?_
  refine z_istore_n (lv2 := [some (.ref p1), some (.int p2), some (.int 0), some (.int (Int32.ofNat n2))]) dJ7_fill_53178_4 (by decide) rfl rfl ?_
  exact hv
theorem lp_fill {d : Nat} {Q : zQt} {I0 : zI} {L : zL} {P : zP} {a n : Nat} {x : Int32} (hP : zPk P) (ha : a < 205 ∧ zsh a = (100, n)) (hn : n < 2 ^ 31) (kk : ∀ I, cFr [a] I0 I → (∀ j, j < n → I a j = x) → Q none I L P 205) :
    ∀ m i I, i + m = n → cFr [a] I0 I → (∀ j, j < i → I a j = x) → gw_J7_fill_53178 d Q 5 [some (.ref a), some (.int x), some (.int (nI i)), some (.int (nI n))] [] I L P := by
  intro m
  induction m with
  | zero =>
    intro i I hi hf h1
    have : i = n := by omega
    subst this
    exact g_J7_fill_53178_5 hP ⟨fun _ => kk I hf h1, fun q => absurd (nI_le (Nat.le_refl _) hn) q⟩
  | succ m ih =>
    intro i I hi hf h1
    refine g_J7_fill_53178_5 hP ⟨fun q => absurd q (nI_ge (by omega) (by omega)), fun _ => ⟨n, ha, nx_in (by omega) hn, fun I1 e1 => ?_⟩⟩
    rw [nI_cl (by omega)] at e1
    subst e1
    rw [nI_1]
    refine ih (i + 1) _ (by omega) (cFr_c hf (by simp)) (fun j hj => ?_)
    rcases Nat.lt_succ_iff_lt_or_eq.mp hj with z | z
    · rw [zuI_o (by omega)]; exact h1 j z
    · subst z; exact zuI_v _ _ _ _
theorem sp_fill {d : Nat} {I : zI} {L : zL} {P : zP} {a n : Nat} {x : Int32} (hP : zPk P) (ha : a < 205 ∧ zsh a = (100, n)) (hn : n < 2 ^ 31) {K : zI → zL → zP → Prop} (kk : ∀ I', cFr [a] I I' → (∀ j, j < n → I' a j = x) → K I' L P) : zMv zm_J7_fill_53178 d [.ref a, .int x] I L P K :=
  g_J7_fill_53178 hP ⟨n, ha, lp_fill hP ha hn (fun I' h1 h2 => qv (kk I' h1 h2)) n 0 I (by omega) (cFr_rf _ _) (fun j hj => absurd hj (Nat.not_lt_zero j))⟩
abbrev gw_X10_open (d : Nat) (Q : zQt) (pc : Nat) (lv : zV) (st : List Value) (I : zI) (L : zL) (P : zP) : Prop := zW zm_X10_open (zRm d 0 0) 0 0 Q pc lv st I L P 205 0 0
abbrev v_X10_open_12 (d : Nat) (Q : zQt) (a : Nat) (p1 : Nat) (x2 : Int32) (x3 : Int32) (I : zI) (L : zL) (P : zP) : Prop :=
  (p1 < 205 ∧ (zsh p1).1 = 2) ∧
  il p1 ∧
  vp_in (I p1 0) 9 ∧
  (((nI (2 ^ (I p1 0).toNatClampNeg)) ≤ x3 →
    gw_X10_open (d + 1) Q 2 [some (.ref a), some (.ref p1), some (.int (x2 + 1)), none] [] I L P
  ) ∧ (¬ (nI (2 ^ (I p1 0).toNatClampNeg)) ≤ x3 →
    (a < 205 ∧ (zsh a).1 = 9) ∧
    ∃ b10 : Nat, P a 0 = some b10 ∧
    ∃ n13, (b10 < 205 ∧ zsh b10 = (104, n13)) ∧
    vp_in x2 n13 ∧
    ∃ b15 : Nat, P b10 x2.toNatClampNeg = some b15 ∧
    ∃ b17 : Nat, P p1 9 = some b17 ∧
    ∃ n20, (b17 < 205 ∧ zsh b17 = (100, n20)) ∧
    vp_in x2 n20 ∧
    ∃ n23, (b15 < 205 ∧ zsh b15 = (100, n23)) ∧
    vp_in x3 n23 ∧
    ∀ I26 : zI, I26 = zuI I b15 x3.toNatClampNeg (x3 &&& (I b17 x2.toNatClampNeg) : Int32) →
    gw_X10_open (d + 1) Q 12 [some (.ref a), some (.ref p1), some (.int x2), some (.int (x3 + 1))] [] I26 L P
  ))
set_option maxRecDepth 20000 in
theorem g_X10_open_12 {d : Nat} {Q : zQt} {a : Nat} {p1 : Nat} {x2 : Int32} {x3 : Int32} {I : zI} {L : zL} {P : zP} (hP : zPk P) (hv : v_X10_open_12 d Q a p1 x2 x3 I L P) : gw_X10_open (d + 1) Q 12 [some (.ref a), some (.ref p1), some (.int x2), some (.int x3)] [] I L P := by
  unfold v_X10_open_12 at hv
  refine z_iload_n dX10_open_12 rfl ?_
  refine z_aload_n dX10_open_13 rfl ?_
  obtain ⟨h3, hv⟩ := hv
  obtain ⟨h4, hv⟩ := hv
  obtain ⟨h5, hv⟩ := hv
  refine z_callV (As := []) (st := [.int x3]) dX10_open_14 zl_X10_26 zv_X2_worldCount (by decide) rfl h3.1 h3.2 rfl rfl (Nat.le_of_ble_eq_true rfl) ⟨Nat.le_refl _, Nat.le_refl _⟩ ⟨Nat.le_refl _, Nat.le_refl _⟩ (sp_X2_worldCount hP h4 h5 (K := fun r I' L' P' => nI (2 ^ (I p1 0).toNatClampNeg) = r ∧ I = I' ∧ L = L' ∧ P = P') ⟨rfl, rfl, rfl, rfl⟩) (fun v1 I2 L2 P2 nx1 q7 => ?_)
  obtain ⟨rfl, r6, rfl, rfl, rfl, rfl, rfl⟩ := q7
  refine z_icmp_ge (tgt := 42) dX10_open_17 (by decide) (fun q8 => ?_) (fun q8 => ?_)
  · have hv := hv.1 q8
    refine z_iinc (v2 := x2 + 1) (lv2 := [some (.ref a), some (.ref p1), some (.int (x2 + 1)), some (.int x3)]) dX10_open_42 rfl (by rfl) (by decide) rfl rfl ?_
    refine z_goto (tgt := 2) dX10_open_45 (by decide) ?_
    exact z_sub (by exact ⟨rfl, ⟨rfl, ⟨rfl, trivial⟩⟩⟩) hv
  · have hv := hv.2 q8
    refine z_aload_n dX10_open_20 rfl ?_
    obtain ⟨h9, hv⟩ := hv
    obtain ⟨b10, h11, hv⟩ := hv
    refine z_getP dX10_open_21 zf_X10_13 h9.1 h9.2 (fun _ _ _ _ _ => rfl) h11 ?_
    refine z_iload_n dX10_open_24 rfl ?_
    obtain ⟨n13, h12, hv⟩ := hv
    obtain ⟨h14, hv⟩ := hv
    obtain ⟨b15, h16, hv⟩ := hv
    refine z_aaload dX10_open_25 h12.1 h12.2 (Or.inl rfl) h14 h16 ?_
    refine z_iload_n dX10_open_26 rfl ?_
    refine z_iload_n dX10_open_27 rfl ?_
    refine z_aload_n dX10_open_28 rfl ?_
    obtain ⟨b17, h18, hv⟩ := hv
    refine z_getP dX10_open_29 zf_X10_30 h3.1 h3.2 (fun _ _ _ _ _ => rfl) h18 ?_
    refine z_iload_n dX10_open_32 rfl ?_
    obtain ⟨n20, h19, hv⟩ := hv
    obtain ⟨h21, hv⟩ := hv
    refine z_iaload dX10_open_33 h19.1 h19.2 h21 ?_
    refine z_iand dX10_open_34 ?_
    obtain ⟨n23, h22, hv⟩ := hv
    obtain ⟨h24, hv⟩ := hv
    refine z_iastore dX10_open_35 h22.1 h22.2 h24 (z_nmI (fun I26 e25 => ?_))
    have hv := hv I26 e25
    refine z_iinc (v2 := x3 + 1) (lv2 := [some (.ref a), some (.ref p1), some (.int x2), some (.int (x3 + 1))]) dX10_open_36 rfl (by rfl) (by decide) rfl rfl ?_
    refine z_goto (tgt := 12) dX10_open_39 (by decide) ?_
    exact hv
abbrev v_X10_open_2 (d : Nat) (Q : zQt) (a : Nat) (p1 : Nat) (x2 : Int32) (I : zI) (L : zL) (P : zP) : Prop :=
  (p1 < 205 ∧ (zsh p1).1 = 2) ∧
  (((I p1 0) ≤ x2 →
    Q none I L P 205
  ) ∧ (¬ (I p1 0) ≤ x2 →
    gw_X10_open (d + 1) Q 12 [some (.ref a), some (.ref p1), some (.int x2), some (.int 0)] [] I L P
  ))
set_option maxRecDepth 20000 in
theorem g_X10_open_2 {d : Nat} {Q : zQt} {a : Nat} {p1 : Nat} {x2 : Int32} {I : zI} {L : zL} {P : zP} (hP : zPk P) (hv : v_X10_open_2 d Q a p1 x2 I L P) : gw_X10_open (d + 1) Q 2 [some (.ref a), some (.ref p1), some (.int x2), none] [] I L P := by
  unfold v_X10_open_2 at hv
  refine z_iload_n dX10_open_2 rfl ?_
  refine z_aload_n dX10_open_3 rfl ?_
  obtain ⟨h1, hv⟩ := hv
  refine z_getI dX10_open_4 zf_X10_22 h1.1 h1.2 (fun _ _ _ _ _ => rfl) ?_
  refine z_icmp_ge (tgt := 48) dX10_open_7 (by decide) (fun q2 => ?_) (fun q2 => ?_)
  · have hv := hv.1 q2
    exact z_return dX10_open_48 rfl (Nat.le_refl _) (Nat.le_refl _) hv
  · have hv := hv.2 q2
    refine z_iconst (v := 0) dX10_open_10 (by decide) ?_
    refine z_istore_n (lv2 := [some (.ref a), some (.ref p1), some (.int x2), some (.int 0)]) dX10_open_11 (by decide) rfl rfl ?_
    exact hv
abbrev v_X10_open (d : Nat) (Q : zQt) (a : Nat) (p1 : Nat) (I : zI) (L : zL) (P : zP) : Prop :=
  gw_X10_open (d + 1) Q 2 [some (.ref a), some (.ref p1), some (.int 0), none] [] I L P
set_option maxRecDepth 20000 in
theorem g_X10_open {d : Nat} {Q : zQt} {a : Nat} {p1 : Nat} {I : zI} {L : zL} {P : zP} (hP : zPk P) (hv : v_X10_open d Q a p1 I L P) : zM zm_X10_open (d + 1) 0 0 [.ref a, .ref p1] I L P 205 Q := by
  unfold v_X10_open at hv
  refine zM_of (lv0 := [some (.ref a), some (.ref p1), none, none]) (by decide +kernel) (Nat.le_of_ble_eq_true rfl) rfl ?_
  refine z_iconst (v := 0) dX10_open_0 (by decide) ?_
  refine z_istore_n (lv2 := [some (.ref a), some (.ref p1), some (.int 0), none]) dX10_open_1 (by decide) rfl rfl ?_
  exact hv
/-- groups as an island begins -/
theorem lp_X10_open_12 {d : Nat} {Q : zQt} {I0 : zI} {L : zL} {P : zP} {v t np p : Nat} {sn : Nat → Nat} (hP : zPk P) (hv : vw v) (ht : il t) (hn : np ≤ 8) (h0 : I0 t 0 = nI np) (hp : p < np) (hs : I0 (t + 2) p = nI (sn p))
    (kk : ∀ I, cFr [v + 2 + p] I0 I → (∀ w, w < 2 ^ np → I (v + 2 + p) w = nI (w &&& sn p)) → gw_X10_open (d + 1) Q 2 [some (.ref v), some (.ref t), some (.int (nI (p + 1))), none] [] I L P) :
    ∀ m i I, i + m = 2 ^ np → cFr [v + 2 + p] I0 I → (∀ w, w < i → I (v + 2 + p) w = nI (w &&& sn p)) → gw_X10_open (d + 1) Q 12 [some (.ref v), some (.ref t), some (.int (nI p)), some (.int (nI i))] [] I L P := by
  obtain ⟨a1, a2, a3, a4, a5, a6⟩ := vw_P hv hP
  obtain ⟨b1, b2, b3, -⟩ := il_P ht hP
  have hN := pw8 hn
  have ht2 := ht
  have hv2 := hv
  unfold il at ht2
  unfold vw at hv2
  intro m
  induction m with
  | zero =>
    intro i I hi hf h1
    have : i = 2 ^ np := by omega
    have e0 : I t 0 = nI np := by rw [hf t (by simp only [List.mem_cons, List.not_mem_nil, or_false]; omega)]; exact h0
    refine g_X10_open_12 hP ?_
    unfold v_X10_open_12
    rw [e0, nI_cl (by omega), nI_1]
    subst this
    refine ⟨b1, ht, nx_in (by omega) (by decide), fun _ => kk I hf h1, fun q => absurd (nI_le (Nat.le_refl _) (by omega)) q⟩
  | succ m ih =>
    intro i I hi hf h1
    have e0 : I t 0 = nI np := by rw [hf t (by simp only [List.mem_cons, List.not_mem_nil, or_false]; omega)]; exact h0
    have es : I (t + 2) p = nI (sn p) := by rw [hf (t + 2) (by simp only [List.mem_cons, List.not_mem_nil, or_false]; omega)]; exact hs
    refine g_X10_open_12 hP ?_
    unfold v_X10_open_12
    rw [e0, nI_cl (show np < 2 ^ 31 by omega), nI_cl (show p < 2 ^ 31 by omega), nI_cl (show i < 2 ^ 31 by omega), nI_1, nI_1]
    refine ⟨b1, ht, nx_in (by omega) (by decide), fun q => absurd q (nI_ge (by omega) (by omega)), fun _ => ⟨a1, v + 1, a2, 8, a3, nx_in (by omega) (by decide), v + 2 + p, (a6 p (by omega)).1, t + 2, b3.1, 8, b3.2, nx_in (by omega) (by decide), 256, (a6 p (by omega)).2, nx_in (by omega) (by decide), fun I1 e1 => ?_⟩⟩
    rw [es, nx_and] at e1
    subst e1
    refine ih (i + 1) _ (by omega) (cFr_c hf (by simp)) (fun j hj => ?_)
    rcases Nat.lt_succ_iff_lt_or_eq.mp hj with z | z
    · rw [zuI_o (by omega)]; exact h1 j z
    · subst z; exact zuI_v _ _ _ _
abbrev gcs (v : Nat) : List Nat := [v + 2 + 0, v + 2 + 1, v + 2 + 2, v + 2 + 3, v + 2 + 4, v + 2 + 5, v + 2 + 6, v + 2 + 7]
theorem gcs_i {v p : Nat} (h : p < 8) : v + 2 + p ∈ gcs v := by simp only [List.mem_cons, List.not_mem_nil, or_false]; omega
theorem gcs_n {v a : Nat} (h : a < v + 2 ∨ v + 10 ≤ a) : a ∉ gcs v := by simp only [List.mem_cons, List.not_mem_nil, or_false]; omega
theorem sp_X10_open {d v t np : Nat} {I : zI} {L : zL} {P : zP} {sn : Nat → Nat} (hP : zPk P) (hv : vw v) (ht : il t) (hn : np ≤ 8) (h0 : I t 0 = nI np) (hs : ∀ p, p < np → I (t + 2) p = nI (sn p)) (hd : 1 ≤ d) {K : zI → zL → zP → Prop}
    (kk : ∀ I', cFr (gcs v) I I' → (∀ p w, p < np → w < 2 ^ np → I' (v + 2 + p) w = nI (w &&& sn p)) → K I' L P) : zMv zm_X10_open d [.ref v, .ref t] I L P K := by
  obtain ⟨d, rfl⟩ : ∃ e, d = e + 1 := ⟨d - 1, by omega⟩
  obtain ⟨b1, b2, b3, -⟩ := il_P ht hP
  have ht2 := ht
  have hv2 := hv
  unfold il at ht2
  unfold vw at hv2
  have key : ∀ m i J, i + m = np → cFr (gcs v) I J → (∀ p w, p < i → w < 2 ^ np → J (v + 2 + p) w = nI (w &&& sn p)) → gw_X10_open (d + 1) (fun v I' L' P' nx' => nx' = 205 ∧ v = none ∧ K I' L' P') 2 [some (.ref v), some (.ref t), some (.int (nI i)), none] [] J L P := by
    intro m
    induction m with
    | zero =>
      intro i J hi hf h1
      have : i = np := by omega
      subst this
      refine g_X10_open_2 hP ⟨b1, fun _ => qv (kk J hf h1), fun q => absurd ?_ q⟩
      rw [hf t (gcs_n (by omega)), h0]; exact nI_le (Nat.le_refl _) (by omega)
    | succ m ih =>
      intro i J hi hf h1
      refine g_X10_open_2 hP ⟨b1, fun q => absurd q ?_, fun _ => ?_⟩
      · rw [hf t (gcs_n (by omega)), h0]; exact nI_ge (by omega) (by omega)
      · refine lp_X10_open_12 (sn := sn) hP hv ht hn (by rw [hf t (gcs_n (by omega))]; exact h0) (show i < np by omega) (by rw [hf (t + 2) (gcs_n (by omega))]; exact hs i (by omega)) (fun J1 f1 f2 => ?_) (2 ^ np) 0 J (by omega) (cFr_rf _ _) (fun w hw => absurd hw (Nat.not_lt_zero w))
        refine ih (i + 1) J1 (by omega) (cFr_tr hf (cFr_wk f1 (fun a ha => by rw [List.mem_singleton.mp ha]; exact gcs_i (by omega)))) (fun p w hp hw => ?_)
        rcases Nat.lt_succ_iff_lt_or_eq.mp hp with z | z
        · rw [f1 (v + 2 + p) (by simp only [List.mem_cons, List.not_mem_nil, or_false]; omega)]; exact h1 p w z hw
        · subst z; exact f2 w hw
  exact g_X10_open hP (key np 0 I (by omega) (cFr_rf _ _) (fun p w hp => absurd hp (Nat.not_lt_zero p)))
abbrev gw_X10_copy (d : Nat) (Q : zQt) (pc : Nat) (lv : zV) (st : List Value) (I : zI) (L : zL) (P : zP) : Prop := zW zm_X10_copy (zRm d 0 0) 0 0 Q pc lv st I L P 205 0 0
abbrev v_X10_copy_2 (d : Nat) (Q : zQt) (a : Nat) (p1 : Nat) (x2 : Int32) (I : zI) (L : zL) (P : zP) : Prop :=
  ((8 ≤ x2 →
    Q none I L P 205
  ) ∧ (¬ 8 ≤ x2 →
    (p1 < 205 ∧ (zsh p1).1 = 9) ∧
    ∃ b3 : Nat, P p1 0 = some b3 ∧
    ∃ n6, (b3 < 205 ∧ zsh b3 = (104, n6)) ∧
    vp_in x2 n6 ∧
    ∃ b8 : Nat, P b3 x2.toNatClampNeg = some b8 ∧
    (a < 205 ∧ (zsh a).1 = 9) ∧
    ∃ b11 : Nat, P a 0 = some b11 ∧
    ∃ n14, (b11 < 205 ∧ zsh b11 = (104, n14)) ∧
    vp_in x2 n14 ∧
    ∃ b16 : Nat, P b11 x2.toNatClampNeg = some b16 ∧
    ∃ n19, (b8 < 205 ∧ zsh b8 = (100, n19)) ∧
    ∃ n21, (b16 < 205 ∧ zsh b16 = (100, n21)) ∧
    (¬ (0 : Int32) < 0 ∧ ¬ (0 : Int32) < 0 ∧ ¬ (256 : Int32) < 0 ∧ (0 : Int32).toNatClampNeg + (256 : Int32).toNatClampNeg ≤ n19 ∧ (0 : Int32).toNatClampNeg + (256 : Int32).toNatClampNeg ≤ n21) ∧
    ∀ I23 : zI, I23 = zaI I b16 (va_cpy (I b8) (I b16) (0 : Int32).toNatClampNeg (0 : Int32).toNatClampNeg (256 : Int32).toNatClampNeg) →
    gw_X10_copy (d + 1) Q 2 [some (.ref a), some (.ref p1), some (.int (x2 + 1))] [] I23 L P
  ))
set_option maxRecDepth 20000 in
theorem g_X10_copy_2 {d : Nat} {Q : zQt} {a : Nat} {p1 : Nat} {x2 : Int32} {I : zI} {L : zL} {P : zP} (hP : zPk P) (hv : v_X10_copy_2 d Q a p1 x2 I L P) : gw_X10_copy (d + 1) Q 2 [some (.ref a), some (.ref p1), some (.int x2)] [] I L P := by
  unfold v_X10_copy_2 at hv
  refine z_iload_n dX10_copy_2 rfl ?_
  refine z_bipush (v := 8) dX10_copy_3 (by decide) ?_
  refine z_icmp_ge (tgt := 34) dX10_copy_5 (by decide) (fun q1 => ?_) (fun q1 => ?_)
  · have hv := hv.1 q1
    exact z_return dX10_copy_34 rfl (Nat.le_refl _) (Nat.le_refl _) hv
  · have hv := hv.2 q1
    refine z_aload_n dX10_copy_8 rfl ?_
    obtain ⟨h2, hv⟩ := hv
    obtain ⟨b3, h4, hv⟩ := hv
    refine z_getP dX10_copy_9 zf_X10_13 h2.1 h2.2 (fun _ _ _ _ _ => rfl) h4 ?_
    refine z_iload_n dX10_copy_12 rfl ?_
    obtain ⟨n6, h5, hv⟩ := hv
    obtain ⟨h7, hv⟩ := hv
    obtain ⟨b8, h9, hv⟩ := hv
    refine z_aaload dX10_copy_13 h5.1 h5.2 (Or.inl rfl) h7 h9 ?_
    refine z_iconst (v := 0) dX10_copy_14 (by decide) ?_
    refine z_aload_n dX10_copy_15 rfl ?_
    obtain ⟨h10, hv⟩ := hv
    obtain ⟨b11, h12, hv⟩ := hv
    refine z_getP dX10_copy_16 zf_X10_13 h10.1 h10.2 (fun _ _ _ _ _ => rfl) h12 ?_
    refine z_iload_n dX10_copy_19 rfl ?_
    obtain ⟨n14, h13, hv⟩ := hv
    obtain ⟨h15, hv⟩ := hv
    obtain ⟨b16, h17, hv⟩ := hv
    refine z_aaload dX10_copy_20 h13.1 h13.2 (Or.inl rfl) h15 h17 ?_
    refine z_iconst (v := 0) dX10_copy_21 (by decide) ?_
    refine z_sipush (v := 256) dX10_copy_22 (by decide) ?_
    obtain ⟨n19, h18, hv⟩ := hv
    obtain ⟨n21, h20, hv⟩ := hv
    obtain ⟨h22, hv⟩ := hv
    refine z_copyI dX10_copy_25 zl_X10_51 rfl h18.1 h20.1 h18.2 h20.2 h22.1 h22.2.1 h22.2.2.1 h22.2.2.2.1 h22.2.2.2.2 (Nat.le_of_ble_eq_true rfl) ⟨Nat.le_add_left _ _, zr64 _⟩ (z_nmI (fun I23 e24 => ?_))
    have hv := hv I23 e24
    refine z_iinc (v2 := x2 + 1) (lv2 := [some (.ref a), some (.ref p1), some (.int (x2 + 1))]) dX10_copy_28 rfl (by rfl) (by decide) rfl rfl ?_
    refine z_goto (tgt := 2) dX10_copy_31 (by decide) ?_
    exact hv
abbrev v_X10_copy (d : Nat) (Q : zQt) (a : Nat) (p1 : Nat) (I : zI) (L : zL) (P : zP) : Prop :=
  gw_X10_copy (d + 1) Q 2 [some (.ref a), some (.ref p1), some (.int 0)] [] I L P
set_option maxRecDepth 20000 in
theorem g_X10_copy {d : Nat} {Q : zQt} {a : Nat} {p1 : Nat} {I : zI} {L : zL} {P : zP} (hP : zPk P) (hv : v_X10_copy d Q a p1 I L P) : zM zm_X10_copy (d + 1) 0 0 [.ref a, .ref p1] I L P 205 Q := by
  unfold v_X10_copy at hv
  refine zM_of (lv0 := [some (.ref a), some (.ref p1), none]) (by decide +kernel) (Nat.le_of_ble_eq_true rfl) rfl ?_
  refine z_iconst (v := 0) dX10_copy_0 (by decide) ?_
  refine z_istore_n (lv2 := [some (.ref a), some (.ref p1), some (.int 0)]) dX10_copy_1 (by decide) rfl rfl ?_
  exact hv
theorem sp_X10_copy {d v u : Nat} {I : zI} {L : zL} {P : zP} (hP : zPk P) (hv : vw v) (hu : vw u) (hne : v ≠ u) (hd : 1 ≤ d) {K : zI → zL → zP → Prop}
    (kk : ∀ I', cFr (gcs v) I I' → (∀ p w, p < 8 → w < 256 → I' (v + 2 + p) w = I (u + 2 + p) w) → K I' L P) : zMv zm_X10_copy d [.ref v, .ref u] I L P K := by
  obtain ⟨d, rfl⟩ : ∃ e, d = e + 1 := ⟨d - 1, by omega⟩
  obtain ⟨a1, a2, a3, a4, a5, a6⟩ := vw_P hv hP
  obtain ⟨b1, b2, b3, b4, b5, b6⟩ := vw_P hu hP
  have hv2 := hv
  have hu2 := hu
  unfold vw at hv2 hu2
  have key : ∀ m i J, i + m = 8 → cFr (gcs v) I J → (∀ p w, p < i → w < 256 → J (v + 2 + p) w = I (u + 2 + p) w) → gw_X10_copy (d + 1) (fun v I' L' P' nx' => nx' = 205 ∧ v = none ∧ K I' L' P') 2 [some (.ref v), some (.ref u), some (.int (nI i))] [] J L P := by
    intro m
    induction m with
    | zero =>
      intro i J hi hf h1
      have : i = 8 := by omega
      subst this
      exact g_X10_copy_2 hP ⟨fun _ => qv (kk J hf h1), fun q => absurd (by decide) q⟩
    | succ m ih =>
      intro i J hi hf h1
      have h8 : i < 8 := by omega
      refine g_X10_copy_2 hP ?_
      unfold v_X10_copy_2
      rw [nI_cl (show i < 2 ^ 31 by omega), nI_1]
      refine ⟨fun q => absurd q (by rw [show (8 : Int32) = nI 8 from rfl]; exact nI_ge h8 (by decide)), fun _ => ⟨b1, u + 1, b2, 8, b3, nx_in h8 (by decide), u + 2 + i, (b6 i h8).1, a1, v + 1, a2, 8, a3, nx_in h8 (by decide), v + 2 + i, (a6 i h8).1, 256, (b6 i h8).2, 256, (a6 i h8).2, by decide, fun I1 e1 => ?_⟩⟩
      subst e1
      refine ih (i + 1) _ (by omega) (cFr_a hf (gcs_i h8)) (fun p w hp hw => ?_)
      rcases Nat.lt_succ_iff_lt_or_eq.mp hp with z | z
      · rw [zaI_ne (by omega)]; exact h1 p w z hw
      · subst z
        rw [zaI_at, pk_cpy_in (by show 0 ≤ w; omega) (by show w < 0 + 256; omega), hf (u + 2 + p) (gcs_n (by omega))]
        show I (u + 2 + p) (0 + (w - 0)) = _
        rw [Nat.zero_add, Nat.sub_zero]
  exact g_X10_copy hP (key 8 0 I rfl (cFr_rf _ _) (fun p w hp => absurd hp (Nat.not_lt_zero p)))
