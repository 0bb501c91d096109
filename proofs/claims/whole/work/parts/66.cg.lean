/-! ===== the class: scenes begin, follow, are copied; groups part ===== -/
theorem zPk_u {P : zP} {a k : Nat} {v : Option Nat} (h : zst a k = none) (hP : zPk P) : zPk (zuP P a k v) := by
  intro b j c hc
  by_cases e : b = a
  · subst e
    by_cases e2 : j = k
    · subst e2; rw [h] at hc; cases hc
    · rw [zuP_o e2]; exact hP _ _ _ hc
  · rw [zuP_ne e]; exact hP _ _ _ hc
theorem zst_s1 {s l v : Nat} (h : sc s l v) : zst s 1 = none := by
  rcases h with ⟨rfl, rfl, rfl⟩ | ⟨rfl, rfl, rfl⟩ | ⟨rfl, rfl, rfl⟩ | ⟨rfl, rfl, rfl⟩ | ⟨rfl, rfl, rfl⟩ | ⟨rfl, rfl, rfl⟩ <;> decide +kernel
abbrev gw_X6_follow (d : Nat) (Q : zQt) (pc : Nat) (lv : zV) (st : List Value) (I : zI) (L : zL) (P : zP) : Prop := zW zm_X6_follow (zRm d 0 0) 0 0 Q pc lv st I L P 205 0 0
abbrev v_X6_follow (d : Nat) (Q : zQt) (a : Nat) (p1 : Nat) (I : zI) (L : zL) (P : zP) : Prop :=
  (p1 < 205 ∧ (zsh p1).1 = 5) ∧
  ∃ b2 : Nat, P p1 1 = some b2 ∧
  (a < 205 ∧ (zsh a).1 = 5) ∧
  ∀ P5 : zP, P5 = zuP P a 1 (some b2) →
  ∃ b7 : Nat, P5 p1 2 = some b7 ∧
  ∃ b9 : Nat, P5 a 2 = some b9 ∧
  ∃ n12, (b7 < 205 ∧ zsh b7 = (100, n12)) ∧
  ∃ n14, (b9 < 205 ∧ zsh b9 = (100, n14)) ∧
  (¬ (0 : Int32) < 0 ∧ ¬ (0 : Int32) < 0 ∧ ¬ (I p1 3 : Int32) < 0 ∧ (0 : Int32).toNatClampNeg + (I p1 3 : Int32).toNatClampNeg ≤ n12 ∧ (0 : Int32).toNatClampNeg + (I p1 3 : Int32).toNatClampNeg ≤ n14) ∧
  ∀ I16 : zI, I16 = zaI I b9 (va_cpy (I b7) (I b9) (0 : Int32).toNatClampNeg (0 : Int32).toNatClampNeg (I p1 3 : Int32).toNatClampNeg) →
  ∀ I18 : zI, I18 = zuI I16 a 3 (I16 p1 3) →
  ∀ I20 : zI, I20 = zuI I18 a 4 (I18 p1 4) →
  Q none I20 L P5 205
set_option maxRecDepth 20000 in
theorem g_X6_follow {d : Nat} {Q : zQt} {a : Nat} {p1 : Nat} {I : zI} {L : zL} {P : zP} (hP : zPk P) (hv : v_X6_follow d Q a p1 I L P) : zM zm_X6_follow (d + 1) 0 0 [.ref a, .ref p1] I L P 205 Q := by
  unfold v_X6_follow at hv
  refine zM_of (lv0 := [some (.ref a), some (.ref p1)]) (by decide +kernel) (Nat.le_of_ble_eq_true rfl) rfl ?_
  refine z_aload_n dX6_follow_0 rfl ?_
  refine z_aload_n dX6_follow_1 rfl ?_
  obtain ⟨h1, hv⟩ := hv
  obtain ⟨b2, h3, hv⟩ := hv
  refine z_getP dX6_follow_2 zf_X6_30 h1.1 h1.2 (fun _ _ _ _ _ => rfl) h3 ?_
  obtain ⟨h4, hv⟩ := hv
  refine z_putP dX6_follow_5 zf_X6_30 h4.1 h4.2 (Or.inl rfl) (fun _ _ _ _ _ => rfl) (fun _ => rfl) (fun _ => rfl) (z_nmP (fun P5 e6 => ?_))
  have hv := hv P5 e6
  refine z_aload_n dX6_follow_8 rfl ?_
  obtain ⟨b7, h8, hv⟩ := hv
  refine z_getP dX6_follow_9 zf_X6_11 h1.1 h1.2 (fun _ _ _ _ _ => rfl) h8 ?_
  refine z_iconst (v := 0) dX6_follow_12 (by decide) ?_
  refine z_aload_n dX6_follow_13 rfl ?_
  obtain ⟨b9, h10, hv⟩ := hv
  refine z_getP dX6_follow_14 zf_X6_11 h4.1 h4.2 (fun _ _ _ _ _ => rfl) h10 ?_
  refine z_iconst (v := 0) dX6_follow_17 (by decide) ?_
  refine z_aload_n dX6_follow_18 rfl ?_
  refine z_getI dX6_follow_19 zf_X6_17 h1.1 h1.2 (fun _ _ _ _ _ => rfl) ?_
  obtain ⟨n12, h11, hv⟩ := hv
  obtain ⟨n14, h13, hv⟩ := hv
  obtain ⟨h15, hv⟩ := hv
  refine z_copyI dX6_follow_22 zl_X6_56 rfl h11.1 h13.1 h11.2 h13.2 h15.1 h15.2.1 h15.2.2.1 h15.2.2.2.1 h15.2.2.2.2 (Nat.le_of_ble_eq_true rfl) ⟨Nat.le_add_left _ _, zr64 _⟩ (z_nmI (fun I16 e17 => ?_))
  have hv := hv I16 e17
  refine z_aload_n dX6_follow_25 rfl ?_
  refine z_aload_n dX6_follow_26 rfl ?_
  refine z_getI dX6_follow_27 zf_X6_17 h1.1 h1.2 (fun _ _ _ _ _ => rfl) ?_
  refine z_putI dX6_follow_30 zf_X6_17 h4.1 h4.2 (Or.inl rfl) (fun _ _ _ _ _ => rfl) rfl rfl (z_nmI (fun I18 e19 => ?_))
  have hv := hv I18 e19
  refine z_aload_n dX6_follow_33 rfl ?_
  refine z_aload_n dX6_follow_34 rfl ?_
  refine z_getI dX6_follow_35 zf_X6_21 h1.1 h1.2 (fun _ _ _ _ _ => rfl) ?_
  refine z_putI dX6_follow_38 zf_X6_21 h4.1 h4.2 (Or.inl rfl) (fun _ _ _ _ _ => rfl) rfl rfl (z_nmI (fun I20 e21 => ?_))
  have hv := hv I20 e21
  exact z_return dX6_follow_41 rfl (Nat.le_refl _) (Nat.le_refl _) hv
theorem sp_X6_follow {d : Nat} {I : zI} {L : zL} {P : zP} {s l v s2 l2 v2 t : Nat} {xs : List Nat} (hP : zPk P) (hsc : sc s l v) (hsc2 : sc s2 l2 v2) (hne : s ≠ s2) (hS : cS s2 l2 I xs) (ht : P s2 1 = some t) (hd : 1 ≤ d) {K : zI → zL → zP → Prop}
    (kk : ∀ I', cFr [s, l] I I' → cS s l I' xs → I' s 4 = I s2 4 → I' s 5 = I s 5 → I' s 6 = I s 6 → K I' L (zuP P s 1 (some t))) : zMv zm_X6_follow d [.ref s, .ref s2] I L P K := by
  obtain ⟨d, rfl⟩ : ∃ e, d = e + 1 := ⟨d - 1, by omega⟩
  obtain ⟨p1, p2, p3, p4⟩ := sc_P hsc hP
  obtain ⟨q1, q2, q3, q4⟩ := sc_P hsc2 hP
  have h1 := hsc
  have h2 := hsc2
  unfold sc at h1 h2
  have hl := hS.2.1
  refine g_X6_follow hP ⟨q1, t, ht, p1, fun P1 e1 => ⟨l2, ?_, l, ?_, 256, q3, 256, p3, ?_, fun I1 f1 I2 f2 I3 f3 => qv ?_⟩⟩
  · rw [e1, zuP_ne (by omega)]; exact q2
  · rw [e1, zuP_o (by decide)]; exact p2
  · rw [hS.1, nI_cl (by omega)]
    exact ⟨by decide, by decide, nI_pos (by omega), by show 0 + _ ≤ _; omega, by show 0 + _ ≤ _; omega⟩
  · subst e1
    have e13 : I1 s2 3 = nI xs.length := by rw [f1, zaI_ne (by omega)]; exact hS.1
    rw [e13] at f2
    have e24 : I2 s2 4 = I s2 4 := by rw [f2, zuI_ne (by omega), f1, zaI_ne (by omega)]
    rw [e24] at f3
    subst f3
    subst f2
    subst f1
    refine kk _ (cFr_c (cFr_c (cFr_a (cFr_rf _ _) (by simp)) (by simp)) (by simp)) ⟨?_, hl, hS.2.2.1, fun i w hw => ?_⟩ (zuI_v _ _ _ _) ?_ ?_
    · rw [zuI_o (by decide), zuI_v]
    · have hi : i < xs.length := (List.getElem?_eq_some_iff.mp hw).1
      rw [zuI_ne (by omega), zuI_ne (by omega), zaI_at, hS.1, nI_cl (by omega), pk_cpy_in (by show 0 ≤ i; omega) (by show i < 0 + xs.length; omega)]
      show I l2 (0 + (i - 0)) = _
      rw [Nat.zero_add, Nat.sub_zero]
      exact hS.2.2.2 i w hw
    · rw [zuI_o (by decide), zuI_o (by decide), zaI_ne (by omega)]
    · rw [zuI_o (by decide), zuI_o (by decide), zaI_ne (by omega)]
abbrev gw_X6_copy (d : Nat) (Q : zQt) (pc : Nat) (lv : zV) (st : List Value) (I : zI) (L : zL) (P : zP) : Prop := zW zm_X6_copy (zRm d 0 0) 0 0 Q pc lv st I L P 205 0 0
abbrev v_X6_copy (d : Nat) (Q : zQt) (a : Nat) (p1 : Nat) (I : zI) (L : zL) (P : zP) : Prop :=
  (a < 205 ∧ (zsh a).1 = 5) ∧
  zMv zm_X6_follow d [.ref a, .ref p1] I L P (fun I2 L3 P4 =>
    (p1 < 205 ∧ (zsh p1).1 = 5) ∧
    ∀ I8 : zI, I8 = zuI I2 a 5 (I2 p1 5) →
    ∀ I10 : zI, I10 = zuI I8 a 6 (I8 p1 6) →
    ∃ b12 : Nat, P4 a 0 = some b12 ∧
    ∃ b14 : Nat, P4 p1 0 = some b14 ∧
    (b12 < 205 ∧ (zsh b12).1 = 9) ∧
    zMv zm_X10_copy d [.ref b12, .ref b14] I10 L3 P4 (fun I17 L18 P19 =>
      Q none I17 L18 P19 205
    )
  )
set_option maxRecDepth 20000 in
theorem g_X6_copy {d : Nat} {Q : zQt} {a : Nat} {p1 : Nat} {I : zI} {L : zL} {P : zP} (hP : zPk P) (hv : v_X6_copy d Q a p1 I L P) : zM zm_X6_copy (d + 1) 0 0 [.ref a, .ref p1] I L P 205 Q := by
  unfold v_X6_copy at hv
  refine zM_of (lv0 := [some (.ref a), some (.ref p1)]) (by decide +kernel) (Nat.le_of_ble_eq_true rfl) rfl ?_
  refine z_aload_n dX6_copy_0 rfl ?_
  refine z_aload_n dX6_copy_1 rfl ?_
  obtain ⟨h1, hv⟩ := hv
  refine z_callV (As := [.ref p1]) (st := []) dX6_copy_2 zl_X6_48 zv_X6_follow (by decide) rfl h1.1 h1.2 rfl rfl (Nat.le_of_ble_eq_true rfl) ⟨Nat.le_refl _, Nat.le_refl _⟩ ⟨Nat.le_refl _, Nat.le_refl _⟩ hv (fun v1 I2 L3 P4 nx1 q5 => ?_)
  obtain ⟨rfl, rfl, hv⟩ := q5
  refine z_aload_n dX6_copy_5 rfl ?_
  refine z_aload_n dX6_copy_6 rfl ?_
  obtain ⟨h7, hv⟩ := hv
  refine z_getI dX6_copy_7 zf_X6_24 h7.1 h7.2 (fun _ _ _ _ _ => rfl) ?_
  refine z_putI dX6_copy_10 zf_X6_24 h1.1 h1.2 (Or.inl rfl) (fun _ _ _ _ _ => rfl) rfl rfl (z_nmI (fun I8 e9 => ?_))
  have hv := hv I8 e9
  refine z_aload_n dX6_copy_13 rfl ?_
  refine z_aload_n dX6_copy_14 rfl ?_
  refine z_getI dX6_copy_15 zf_X6_27 h7.1 h7.2 (fun _ _ _ _ _ => rfl) ?_
  refine z_putI dX6_copy_18 zf_X6_27 h1.1 h1.2 (Or.inl rfl) (fun _ _ _ _ _ => rfl) rfl rfl (z_nmI (fun I10 e11 => ?_))
  have hv := hv I10 e11
  refine z_aload_n dX6_copy_21 rfl ?_
  obtain ⟨b12, h13, hv⟩ := hv
  refine z_getP dX6_copy_22 zf_X6_34 h1.1 h1.2 (fun _ _ _ _ _ => rfl) h13 ?_
  refine z_aload_n dX6_copy_25 rfl ?_
  obtain ⟨b14, h15, hv⟩ := hv
  refine z_getP dX6_copy_26 zf_X6_34 h7.1 h7.2 (fun _ _ _ _ _ => rfl) h15 ?_
  obtain ⟨h16, hv⟩ := hv
  refine z_callV (As := [.ref b14]) (st := []) dX6_copy_29 zl_X6_52 zv_X10_copy (by decide) rfl h16.1 h16.2 rfl rfl (Nat.le_of_ble_eq_true rfl) ⟨Nat.le_refl _, Nat.le_refl _⟩ ⟨Nat.le_refl _, Nat.le_refl _⟩ hv (fun v1 I17 L18 P19 nx1 q20 => ?_)
  obtain ⟨rfl, rfl, hv⟩ := q20
  exact z_return dX6_copy_32 rfl (Nat.le_refl _) (Nat.le_refl _) hv
theorem sp_X6_copy {d : Nat} {I : zI} {L : zL} {P : zP} {s l v s2 l2 v2 t : Nat} {xs : List Nat} (hP : zPk P) (hsc : sc s l v) (hsc2 : sc s2 l2 v2) (hne : s ≠ s2) (hnv : v ≠ v2) (hS : cS s2 l2 I xs) (ht : P s2 1 = some t) (hd : 2 ≤ d) {K : zI → zL → zP → Prop}
    (kk : ∀ I', cFr (s :: l :: gcs v) I I' → cS s l I' xs → I' s 4 = I s2 4 → I' s 5 = I s2 5 → I' s 6 = I s2 6 → (∀ p w, p < 8 → w < 256 → I' (v + 2 + p) w = I (v2 + 2 + p) w) → K I' L (zuP P s 1 (some t))) : zMv zm_X6_copy d [.ref s, .ref s2] I L P K := by
  obtain ⟨d, rfl⟩ : ∃ e, d = e + 1 := ⟨d - 1, by omega⟩
  obtain ⟨p1, p2, p3, p4⟩ := sc_P hsc hP
  obtain ⟨q1, q2, q3, q4⟩ := sc_P hsc2 hP
  have h1 := hsc
  have h2 := hsc2
  unfold sc at h1 h2
  have hv1 := (vw_P (sc_v hsc) hP).1
  have hP1 : zPk (zuP P s 1 (some t)) := zPk_u (zst_s1 hsc) hP
  refine g_X6_copy hP ⟨p1, sp_X6_follow hP hsc hsc2 hne hS ht (by omega) (fun I1 f1 f2 f3 f4 f5 => ⟨q1, fun I2 e2 I3 e3 => ⟨v, ?_, v2, ?_, hv1, sp_X10_copy hP1 (sc_v hsc) (sc_v hsc2) hnv (by omega) (fun I4 g1 g2 => qv ?_)⟩⟩)⟩
  · rw [zuP_o (by decide)]; exact p4
  · rw [zuP_ne (by omega)]; exact q4
  · have e15 : I1 s2 5 = I s2 5 := by rw [f1 s2 (by simp only [List.mem_cons, List.not_mem_nil, or_false]; omega)]
    rw [e15] at e2
    have e26 : I2 s2 6 = I s2 6 := by rw [e2, zuI_ne (by omega), f1 s2 (by simp only [List.mem_cons, List.not_mem_nil, or_false]; omega)]
    rw [e26] at e3
    have n1 : I4 s = I3 s := g1 s (gcs_n (by omega))
    have n2 : I4 l = I3 l := g1 l (gcs_n (by omega))
    subst e3
    subst e2
    refine kk I4 ?_ (cS_c f2 ?_ ?_) ?_ ?_ ?_ (fun p w hp hw => ?_)
    · refine cFr_tr ?_ (cFr_wk g1 (fun a ha => List.mem_cons_of_mem _ (List.mem_cons_of_mem _ ha)))
      exact cFr_c (cFr_c (cFr_wk f1 (fun a ha => by simp only [List.mem_cons, List.not_mem_nil, or_false] at ha ⊢; omega)) (by simp)) (by simp)
    · rw [n1, zuI_o (by decide), zuI_o (by decide)]
    · rw [n2, zuI_ne (by omega), zuI_ne (by omega)]
    · rw [n1, zuI_o (by decide), zuI_o (by decide)]; exact f3
    · rw [n1, zuI_o (by decide), zuI_v]
    · rw [n1, zuI_v]
    · rw [g2 p w hp hw, zuI_ne (by omega), zuI_ne (by omega), f1 (v2 + 2 + p) (by simp only [List.mem_cons, List.not_mem_nil, or_false]; omega)]
abbrev gw_X6_open (d : Nat) (Q : zQt) (pc : Nat) (lv : zV) (st : List Value) (I : zI) (L : zL) (P : zP) : Prop := zW zm_X6_open (zRm d 0 0) 0 0 Q pc lv st I L P 205 0 0
abbrev v_X6_open_15 (d : Nat) (Q : zQt) (a : Nat) (p1 : Nat) (x2 : Int32) (I : zI) (L : zL) (P : zP) : Prop :=
  (a < 205 ∧ (zsh a).1 = 5) ∧
  (((I a 3) ≤ x2 →
    ∀ I14 : zI, I14 = zuI I a 4 0 →
    ∀ I16 : zI, I16 = zuI I14 a 5 0 →
    ∀ I18 : zI, I18 = zuI I16 a 6 0 →
    ∃ b20 : Nat, P a 0 = some b20 ∧
    (b20 < 205 ∧ (zsh b20).1 = 9) ∧
    zMv zm_X10_open d [.ref b20, .ref p1] I18 L P (fun I23 L24 P25 =>
      Q none I23 L24 P25 205
    )
  ) ∧ (¬ (I a 3) ≤ x2 →
    ∃ b28 : Nat, P a 2 = some b28 ∧
    ∃ n31, (b28 < 205 ∧ zsh b28 = (100, n31)) ∧
    vp_in x2 n31 ∧
    ∀ I34 : zI, I34 = zuI I b28 x2.toNatClampNeg x2 →
    gw_X6_open (d + 1) Q 15 [some (.ref a), some (.ref p1), some (.int (x2 + 1))] [] I34 L P
  ))
set_option maxRecDepth 20000 in
theorem g_X6_open_15 {d : Nat} {Q : zQt} {a : Nat} {p1 : Nat} {x2 : Int32} {I : zI} {L : zL} {P : zP} (hP : zPk P) (hv : v_X6_open_15 d Q a p1 x2 I L P) : gw_X6_open (d + 1) Q 15 [some (.ref a), some (.ref p1), some (.int x2)] [] I L P := by
  unfold v_X6_open_15 at hv
  refine z_iload_n dX6_open_15 rfl ?_
  refine z_aload_n dX6_open_16 rfl ?_
  obtain ⟨h12, hv⟩ := hv
  refine z_getI dX6_open_17 zf_X6_17 h12.1 h12.2 (fun _ _ _ _ _ => rfl) ?_
  refine z_icmp_ge (tgt := 36) dX6_open_20 (by decide) (fun q13 => ?_) (fun q13 => ?_)
  · have hv := hv.1 q13
    refine z_aload_n dX6_open_36 rfl ?_
    refine z_iconst (v := 0) dX6_open_37 (by decide) ?_
    refine z_putI dX6_open_38 zf_X6_21 h12.1 h12.2 (Or.inl rfl) (fun _ _ _ _ _ => rfl) rfl rfl (z_nmI (fun I14 e15 => ?_))
    have hv := hv I14 e15
    refine z_aload_n dX6_open_41 rfl ?_
    refine z_iconst (v := 0) dX6_open_42 (by decide) ?_
    refine z_putI dX6_open_43 zf_X6_24 h12.1 h12.2 (Or.inl rfl) (fun _ _ _ _ _ => rfl) rfl rfl (z_nmI (fun I16 e17 => ?_))
    have hv := hv I16 e17
    refine z_aload_n dX6_open_46 rfl ?_
    refine z_iconst (v := 0) dX6_open_47 (by decide) ?_
    refine z_putI dX6_open_48 zf_X6_27 h12.1 h12.2 (Or.inl rfl) (fun _ _ _ _ _ => rfl) rfl rfl (z_nmI (fun I18 e19 => ?_))
    have hv := hv I18 e19
    refine z_aload_n dX6_open_51 rfl ?_
    obtain ⟨b20, h21, hv⟩ := hv
    refine z_getP dX6_open_52 zf_X6_34 h12.1 h12.2 (fun _ _ _ _ _ => rfl) h21 ?_
    refine z_aload_n dX6_open_55 rfl ?_
    obtain ⟨h22, hv⟩ := hv
    refine z_callV (As := [.ref p1]) (st := []) dX6_open_56 zl_X6_42 zv_X10_open (by decide) rfl h22.1 h22.2 rfl rfl (Nat.le_of_ble_eq_true rfl) ⟨Nat.le_refl _, Nat.le_refl _⟩ ⟨Nat.le_refl _, Nat.le_refl _⟩ hv (fun v1 I23 L24 P25 nx1 q26 => ?_)
    obtain ⟨rfl, rfl, hv⟩ := q26
    exact z_return dX6_open_59 rfl (Nat.le_refl _) (Nat.le_refl _) hv
  · have hv := hv.2 q13
    refine z_aload_n dX6_open_23 rfl ?_
    obtain ⟨b28, h29, hv⟩ := hv
    refine z_getP dX6_open_24 zf_X6_11 h12.1 h12.2 (fun _ _ _ _ _ => rfl) h29 ?_
    refine z_iload_n dX6_open_27 rfl ?_
    refine z_iload_n dX6_open_28 rfl ?_
    obtain ⟨n31, h30, hv⟩ := hv
    obtain ⟨h32, hv⟩ := hv
    refine z_iastore dX6_open_29 h30.1 h30.2 h32 (z_nmI (fun I34 e33 => ?_))
    have hv := hv I34 e33
    refine z_iinc (v2 := x2 + 1) (lv2 := [some (.ref a), some (.ref p1), some (.int (x2 + 1))]) dX6_open_30 rfl (by rfl) (by decide) rfl rfl ?_
    refine z_goto (tgt := 15) dX6_open_33 (by decide) ?_
    exact hv
abbrev v_X6_open (d : Nat) (Q : zQt) (a : Nat) (p1 : Nat) (I : zI) (L : zL) (P : zP) : Prop :=
  (a < 205 ∧ (zsh a).1 = 5) ∧
  ∀ P2 : zP, P2 = zuP P a 1 (some p1) →
  (p1 < 205 ∧ (zsh p1).1 = 2) ∧
  zPk P2 ∧
  il p1 ∧
  vp_in (I p1 0) 9 ∧
  ∀ I10 : zI, I10 = zuI I a 3 (nI (2 ^ (I p1 0).toNatClampNeg)) →
  gw_X6_open (d + 1) Q 15 [some (.ref a), some (.ref p1), some (.int 0)] [] I10 L P2
set_option maxRecDepth 20000 in
theorem g_X6_open {d : Nat} {Q : zQt} {a : Nat} {p1 : Nat} {I : zI} {L : zL} {P : zP} (hP : zPk P) (hv : v_X6_open d Q a p1 I L P) : zM zm_X6_open (d + 1) 0 0 [.ref a, .ref p1] I L P 205 Q := by
  unfold v_X6_open at hv
  refine zM_of (lv0 := [some (.ref a), some (.ref p1), none]) (by decide +kernel) (Nat.le_of_ble_eq_true rfl) rfl ?_
  refine z_aload_n dX6_open_0 rfl ?_
  refine z_aload_n dX6_open_1 rfl ?_
  obtain ⟨h1, hv⟩ := hv
  refine z_putP dX6_open_2 zf_X6_30 h1.1 h1.2 (Or.inl rfl) (fun _ _ _ _ _ => rfl) (fun _ => rfl) (fun _ => rfl) (z_nmP (fun P2 e3 => ?_))
  have hv := hv P2 e3
  refine z_aload_n dX6_open_5 rfl ?_
  refine z_aload_n dX6_open_6 rfl ?_
  obtain ⟨h4, hv⟩ := hv
  obtain ⟨h5, hv⟩ := hv
  obtain ⟨h6, hv⟩ := hv
  obtain ⟨h7, hv⟩ := hv
  refine z_callV (As := []) (st := [.ref a]) dX6_open_7 zl_X6_38 zv_X2_worldCount (by decide) rfl h4.1 h4.2 rfl rfl (Nat.le_of_ble_eq_true rfl) ⟨Nat.le_refl _, Nat.le_refl _⟩ ⟨Nat.le_refl _, Nat.le_refl _⟩ (sp_X2_worldCount h5 h6 h7 (K := fun r I' L' P' => nI (2 ^ (I p1 0).toNatClampNeg) = r ∧ I = I' ∧ L = L' ∧ P2 = P') ⟨rfl, rfl, rfl, rfl⟩) (fun v1 I2 L2 P2 nx1 q9 => ?_)
  obtain ⟨rfl, r8, rfl, rfl, rfl, rfl, rfl⟩ := q9
  refine z_putI dX6_open_10 zf_X6_17 h1.1 h1.2 (Or.inl rfl) (fun _ _ _ _ _ => rfl) rfl rfl (z_nmI (fun I10 e11 => ?_))
  have hv := hv I10 e11
  refine z_iconst (v := 0) dX6_open_13 (by decide) ?_
  refine z_istore_n (lv2 := [some (.ref a), some (.ref p1), some (.int 0)]) dX6_open_14 (by decide) rfl rfl ?_
  exact hv
/-- all worlds -/
abbrev aw (np : Nat) : List Nat := List.range (2 ^ np)
theorem sp_X6_open {d : Nat} {I : zI} {L : zL} {P : zP} {s l v t np : Nat} {sn : Nat → Nat} (hP : zPk P) (hsc : sc s l v) (hH : iH t np I) (hs : ∀ p, p < np → I (t + 2) p = nI (sn p)) (hd : 2 ≤ d) {K : zI → zL → zP → Prop}
    (kk : ∀ I', cFr (s :: l :: gcs v) I I' → cS s l I' (aw np) → I' s 4 = 0 → I' s 5 = 0 → I' s 6 = 0 → (∀ p w, p < np → w < 2 ^ np → I' (v + 2 + p) w = nI (w &&& sn p)) → K I' L (zuP P s 1 (some t))) : zMv zm_X6_open d [.ref s, .ref t] I L P K := by
  obtain ⟨d, rfl⟩ : ∃ e, d = e + 1 := ⟨d - 1, by omega⟩
  obtain ⟨p1, p2, p3, p4⟩ := sc_P hsc hP
  have h1 := hsc
  unfold sc at h1
  obtain ⟨ht, hn, h0⟩ := hH
  have h2 := ht
  unfold il at h2
  have hv1 := (vw_P (sc_v hsc) hP).1
  have b1 := (il_P ht hP).1
  have hN := pw8 hn
  have hP1 : zPk (zuP P s 1 (some t)) := zPk_u (zst_s1 hsc) hP
  obtain ⟨r1, r2, r3, r4⟩ := sc_P hsc hP1
  have key : ∀ m i J, i + m = 2 ^ np → cFr [s, l] I J → J s 3 = nI (2 ^ np) → (∀ j, j < i → J l j = nI j) → gw_X6_open (d + 1) (fun v I' L' P' nx' => nx' = 205 ∧ v = none ∧ K I' L' P') 15 [some (.ref s), some (.ref t), some (.int (nI i))] [] J L (zuP P s 1 (some t)) := by
    intro m
    induction m with
    | zero =>
      intro i J hi hf h3 h5
      have : i = 2 ^ np := by omega
      subst this
      refine g_X6_open_15 hP1 ⟨p1, fun _ I1 e1 I2 e2 I3 e3 => ⟨v, r4, hv1, ?_⟩, fun q => absurd (by rw [h3]; exact nI_le (Nat.le_refl _) (by omega)) q⟩
      have ft : I3 t = I t := by rw [e3, zuI_ne (by omega), e2, zuI_ne (by omega), e1, zuI_ne (by omega), hf t (by simp only [List.mem_cons, List.not_mem_nil, or_false]; omega)]
      have ft2 : I3 (t + 2) = I (t + 2) := by rw [e3, zuI_ne (by omega), e2, zuI_ne (by omega), e1, zuI_ne (by omega), hf (t + 2) (by simp only [List.mem_cons, List.not_mem_nil, or_false]; omega)]
      refine sp_X10_open (np := np) (sn := sn) hP1 (sc_v hsc) ht hn (by rw [ft]; exact h0) (fun p hp => by rw [ft2]; exact hs p hp) (by omega) (fun I4 g1 g2 => qv ?_)
      have n1 : I4 s = I3 s := g1 s (gcs_n (by omega))
      have n2 : I4 l = I3 l := g1 l (gcs_n (by omega))
      subst e3
      subst e2
      subst e1
      refine kk I4 ?_ ⟨?_, ?_, ?_, fun j w hw => ?_⟩ ?_ ?_ ?_ g2
      · refine cFr_tr ?_ (cFr_wk g1 (fun a ha => List.mem_cons_of_mem _ (List.mem_cons_of_mem _ ha)))
        exact cFr_c (cFr_c (cFr_c (cFr_wk hf (fun a ha => by simp only [List.mem_cons, List.not_mem_nil, or_false] at ha ⊢; omega)) (by simp)) (by simp)) (by simp)
      · rw [n1, zuI_o (by decide), zuI_o (by decide), zuI_o (by decide), List.length_range]; exact h3
      · rw [List.length_range]; exact hN
      · intro w hw; have := List.mem_range.mp hw; omega
      · rw [n2, zuI_ne (by omega), zuI_ne (by omega), zuI_ne (by omega)]
        have hj : j < 2 ^ np := by have := (List.getElem?_eq_some_iff.mp hw).1; rwa [List.length_range] at this
        rw [List.getElem?_range hj] at hw
        rw [h5 j hj, ← Option.some.inj hw]
      · rw [n1, zuI_o (by decide), zuI_o (by decide), zuI_v]
      · rw [n1, zuI_o (by decide), zuI_v]
      · rw [n1, zuI_v]
    | succ m ih =>
      intro i J hi hf h3 h5
      refine g_X6_open_15 hP1 ⟨p1, fun q => absurd q (by rw [h3]; exact nI_ge (by omega) (by omega)), fun _ => ⟨l, r2, 256, p3, nx_in (by omega) (by decide), fun I1 e1 => ?_⟩⟩
      rw [nI_cl (by omega)] at e1
      subst e1
      rw [nI_1]
      refine ih (i + 1) _ (by omega) (cFr_c hf (by simp)) (by rw [zuI_ne (by omega)]; exact h3) (fun j hj => ?_)
      rcases Nat.lt_succ_iff_lt_or_eq.mp hj with z | z
      · rw [zuI_o (by omega)]; exact h5 j z
      · subst z; exact zuI_v _ _ _ _
  refine g_X6_open hP ⟨p1, fun P1 e1 => ⟨b1, by rw [e1]; exact hP1, ht, by rw [h0]; exact nx_in (by omega) (by decide), fun I1 e2 => ?_⟩⟩
  rw [h0, nI_cl (by omega)] at e2
  subst e1
  subst e2
  exact key (2 ^ np) 0 _ (by omega) (cFr_c (cFr_rf _ _) (by simp)) (zuI_v _ _ _ _) (fun j hj => absurd hj (Nat.not_lt_zero j))
abbrev gw_X10_split (d : Nat) (Q : zQt) (pc : Nat) (lv : zV) (st : List Value) (I : zI) (L : zL) (P : zP) : Prop := zW zm_X10_split (zRm d 0 0) 0 0 Q pc lv st I L P 205 0 0
abbrev v_X10_split_18 (d : Nat) (Q : zQt) (a : Nat) (p2 : Nat) (p3 : Nat) (x4 : Nat) (x5 : Int32) (I : zI) (L : zL) (P : zP) : Prop :=
  (p3 < 205 ∧ (zsh p3).1 = 5) ∧
  (((I p3 3) ≤ x5 →
    Q none I L P 205
  ) ∧ (¬ (I p3 3) ≤ x5 →
    ∃ b15 : Nat, P p3 2 = some b15 ∧
    ∃ n18, (b15 < 205 ∧ zsh b15 = (100, n18)) ∧
    vp_in x5 n18 ∧
    ∃ n21, (x4 < 205 ∧ zsh x4 = (100, n21)) ∧
    vp_in (I b15 x5.toNatClampNeg) n21 ∧
    ∃ n24, (p2 < 205 ∧ zsh p2 = (100, n24)) ∧
    vp_in (I b15 x5.toNatClampNeg) n24 ∧
    (((I p2 (I b15 x5.toNatClampNeg).toNatClampNeg) = 0 →
      (a < 205 ∧ (zsh a).1 = 9) ∧
      ∃ b28 : Nat, P a 1 = some b28 ∧
      ∃ n31, (b28 < 205 ∧ zsh b28 = (100, n31)) ∧
      vp_in (((2 : Int32) * (I x4 (I b15 x5.toNatClampNeg).toNatClampNeg)) + 0) n31 ∧
      ((¬ (I b28 (((2 : Int32) * (I x4 (I b15 x5.toNatClampNeg).toNatClampNeg)) + 0).toNatClampNeg) = (-1) →
        ∀ I35 : zI, I35 = zuI I x4 (I b15 x5.toNatClampNeg).toNatClampNeg (I b28 (((2 : Int32) * (I x4 (I b15 x5.toNatClampNeg).toNatClampNeg)) + 0).toNatClampNeg) →
        gw_X10_split (d + 1) Q 18 [some (.ref a), none, some (.ref p2), some (.ref p3), some (.ref x4), some (.int (x5 + 1)), none, none] [] I35 L P
      ) ∧ ((I b28 (((2 : Int32) * (I x4 (I b15 x5.toNatClampNeg).toNatClampNeg)) + 0).toNatClampNeg) = (-1) →
        ∀ I37 : zI, I37 = zuI I b28 (((2 : Int32) * (I x4 (I b15 x5.toNatClampNeg).toNatClampNeg)) + 0).toNatClampNeg (I b15 x5.toNatClampNeg) →
        ∀ I39 : zI, I39 = zuI I37 x4 (I b15 x5.toNatClampNeg).toNatClampNeg (I37 b28 (((2 : Int32) * (I x4 (I b15 x5.toNatClampNeg).toNatClampNeg)) + 0).toNatClampNeg) →
        gw_X10_split (d + 1) Q 18 [some (.ref a), none, some (.ref p2), some (.ref p3), some (.ref x4), some (.int (x5 + 1)), none, none] [] I39 L P
      ))
    ) ∧ (¬ (I p2 (I b15 x5.toNatClampNeg).toNatClampNeg) = 0 →
      (a < 205 ∧ (zsh a).1 = 9) ∧
      ∃ b41 : Nat, P a 1 = some b41 ∧
      ∃ n44, (b41 < 205 ∧ zsh b41 = (100, n44)) ∧
      vp_in (((2 : Int32) * (I x4 (I b15 x5.toNatClampNeg).toNatClampNeg)) + 1) n44 ∧
      ((¬ (I b41 (((2 : Int32) * (I x4 (I b15 x5.toNatClampNeg).toNatClampNeg)) + 1).toNatClampNeg) = (-1) →
        ∀ I48 : zI, I48 = zuI I x4 (I b15 x5.toNatClampNeg).toNatClampNeg (I b41 (((2 : Int32) * (I x4 (I b15 x5.toNatClampNeg).toNatClampNeg)) + 1).toNatClampNeg) →
        gw_X10_split (d + 1) Q 18 [some (.ref a), none, some (.ref p2), some (.ref p3), some (.ref x4), some (.int (x5 + 1)), none, none] [] I48 L P
      ) ∧ ((I b41 (((2 : Int32) * (I x4 (I b15 x5.toNatClampNeg).toNatClampNeg)) + 1).toNatClampNeg) = (-1) →
        ∀ I50 : zI, I50 = zuI I b41 (((2 : Int32) * (I x4 (I b15 x5.toNatClampNeg).toNatClampNeg)) + 1).toNatClampNeg (I b15 x5.toNatClampNeg) →
        ∀ I52 : zI, I52 = zuI I50 x4 (I b15 x5.toNatClampNeg).toNatClampNeg (I50 b41 (((2 : Int32) * (I x4 (I b15 x5.toNatClampNeg).toNatClampNeg)) + 1).toNatClampNeg) →
        gw_X10_split (d + 1) Q 18 [some (.ref a), none, some (.ref p2), some (.ref p3), some (.ref x4), some (.int (x5 + 1)), none, none] [] I52 L P
      ))
    ))
  ))
set_option maxRecDepth 20000 in
theorem g_X10_split_18 {d : Nat} {Q : zQt} {a : Nat} {p2 : Nat} {p3 : Nat} {x4 : Nat} {x5 : Int32} {I : zI} {L : zL} {P : zP} (hP : zPk P) (hv : v_X10_split_18 d Q a p2 p3 x4 x5 I L P) : gw_X10_split (d + 1) Q 18 [some (.ref a), none, some (.ref p2), some (.ref p3), some (.ref x4), some (.int x5), none, none] [] I L P := by
  unfold v_X10_split_18 at hv
  refine z_iload dX10_split_18 rfl ?_
  refine z_aload_n dX10_split_20 rfl ?_
  obtain ⟨h13, hv⟩ := hv
  refine z_getI dX10_split_21 zf_X10_43 h13.1 h13.2 (fun _ _ _ _ _ => rfl) ?_
  refine z_icmp_ge (tgt := 96) dX10_split_24 (by decide) (fun q14 => ?_) (fun q14 => ?_)
  · have hv := hv.1 q14
    exact z_return dX10_split_96 rfl (Nat.le_refl _) (Nat.le_refl _) hv
  · have hv := hv.2 q14
    refine z_aload_n dX10_split_27 rfl ?_
    obtain ⟨b15, h16, hv⟩ := hv
    refine z_getP dX10_split_28 zf_X10_48 h13.1 h13.2 (fun _ _ _ _ _ => rfl) h16 ?_
    refine z_iload dX10_split_31 rfl ?_
    obtain ⟨n18, h17, hv⟩ := hv
    obtain ⟨h19, hv⟩ := hv
    refine z_iaload dX10_split_33 h17.1 h17.2 h19 ?_
    refine z_istore (lv2 := [some (.ref a), none, some (.ref p2), some (.ref p3), some (.ref x4), some (.int x5), some (.int (I b15 x5.toNatClampNeg)), none]) dX10_split_34 (by decide) rfl rfl ?_
    refine z_iconst (v := 2) dX10_split_36 (by decide) ?_
    refine z_aload dX10_split_37 rfl ?_
    refine z_iload dX10_split_39 rfl ?_
    obtain ⟨n21, h20, hv⟩ := hv
    obtain ⟨h22, hv⟩ := hv
    refine z_iaload dX10_split_41 h20.1 h20.2 h22 ?_
    refine z_imul dX10_split_42 ?_
    refine z_aload_n dX10_split_43 rfl ?_
    refine z_iload dX10_split_44 rfl ?_
    obtain ⟨n24, h23, hv⟩ := hv
    obtain ⟨h25, hv⟩ := hv
    refine z_iaload dX10_split_46 h23.1 h23.2 h25 ?_
    refine z_if_eq (tgt := 54) dX10_split_47 (by decide) (fun q26 => ?_) (fun q26 => ?_)
    · have hv := hv.1 q26
      refine z_iconst (v := 0) dX10_split_54 (by decide) ?_
      refine z_iadd dX10_split_55 ?_
      refine z_istore (lv2 := [some (.ref a), none, some (.ref p2), some (.ref p3), some (.ref x4), some (.int x5), some (.int (I b15 x5.toNatClampNeg)), some (.int (((2 : Int32) * (I x4 (I b15 x5.toNatClampNeg).toNatClampNeg)) + 0))]) dX10_split_56 (by decide) rfl rfl ?_
      refine z_aload_n dX10_split_58 rfl ?_
      obtain ⟨h27, hv⟩ := hv
      obtain ⟨b28, h29, hv⟩ := hv
      refine z_getP dX10_split_59 zf_X10_18 h27.1 h27.2 (fun _ _ _ _ _ => rfl) h29 ?_
      refine z_iload dX10_split_62 rfl ?_
      obtain ⟨n31, h30, hv⟩ := hv
      obtain ⟨h32, hv⟩ := hv
      refine z_iaload dX10_split_64 h30.1 h30.2 h32 ?_
      refine z_iconst (v := (-1)) dX10_split_65 (by decide) ?_
      refine z_icmp_ne (tgt := 78) dX10_split_66 (by decide) (fun q33 => ?_) (fun q33 => ?_)
      · have hv := hv.1 q33
        refine z_aload dX10_split_78 rfl ?_
        refine z_iload dX10_split_80 rfl ?_
        refine z_aload_n dX10_split_82 rfl ?_
        refine z_getP dX10_split_83 zf_X10_18 h27.1 h27.2 (fun _ _ _ _ _ => rfl) h29 ?_
        refine z_iload dX10_split_86 rfl ?_
        refine z_iaload dX10_split_88 h30.1 h30.2 h32 ?_
        refine z_iastore dX10_split_89 h20.1 h20.2 h22 (z_nmI (fun I35 e34 => ?_))
        have hv := hv I35 e34
        refine z_iinc (v2 := x5 + 1) (lv2 := [some (.ref a), none, some (.ref p2), some (.ref p3), some (.ref x4), some (.int (x5 + 1)), some (.int (I b15 x5.toNatClampNeg)), some (.int (((2 : Int32) * (I x4 (I b15 x5.toNatClampNeg).toNatClampNeg)) + 0))]) dX10_split_90 rfl (by rfl) (by decide) rfl rfl ?_
        refine z_goto (tgt := 18) dX10_split_93 (by decide) ?_
        exact z_sub (by exact ⟨rfl, ⟨rfl, ⟨rfl, ⟨rfl, ⟨rfl, trivial⟩⟩⟩⟩⟩) hv
      · have hv := hv.2 q33
        refine z_aload_n dX10_split_69 rfl ?_
        refine z_getP dX10_split_70 zf_X10_18 h27.1 h27.2 (fun _ _ _ _ _ => rfl) h29 ?_
        refine z_iload dX10_split_73 rfl ?_
        refine z_iload dX10_split_75 rfl ?_
        refine z_iastore dX10_split_77 h30.1 h30.2 h32 (z_nmI (fun I37 e36 => ?_))
        have hv := hv I37 e36
        refine z_aload dX10_split_78 rfl ?_
        refine z_iload dX10_split_80 rfl ?_
        refine z_aload_n dX10_split_82 rfl ?_
        refine z_getP dX10_split_83 zf_X10_18 h27.1 h27.2 (fun _ _ _ _ _ => rfl) h29 ?_
        refine z_iload dX10_split_86 rfl ?_
        refine z_iaload dX10_split_88 h30.1 h30.2 h32 ?_
        refine z_iastore dX10_split_89 h20.1 h20.2 h22 (z_nmI (fun I39 e38 => ?_))
        have hv := hv I39 e38
        refine z_iinc (v2 := x5 + 1) (lv2 := [some (.ref a), none, some (.ref p2), some (.ref p3), some (.ref x4), some (.int (x5 + 1)), some (.int (I b15 x5.toNatClampNeg)), some (.int (((2 : Int32) * (I x4 (I b15 x5.toNatClampNeg).toNatClampNeg)) + 0))]) dX10_split_90 rfl (by rfl) (by decide) rfl rfl ?_
        refine z_goto (tgt := 18) dX10_split_93 (by decide) ?_
        exact z_sub (by exact ⟨rfl, ⟨rfl, ⟨rfl, ⟨rfl, ⟨rfl, trivial⟩⟩⟩⟩⟩) hv
    · have hv := hv.2 q26
      refine z_iconst (v := 1) dX10_split_50 (by decide) ?_
      refine z_goto (tgt := 55) dX10_split_51 (by decide) ?_
      refine z_iadd dX10_split_55 ?_
      refine z_istore (lv2 := [some (.ref a), none, some (.ref p2), some (.ref p3), some (.ref x4), some (.int x5), some (.int (I b15 x5.toNatClampNeg)), some (.int (((2 : Int32) * (I x4 (I b15 x5.toNatClampNeg).toNatClampNeg)) + 1))]) dX10_split_56 (by decide) rfl rfl ?_
      refine z_aload_n dX10_split_58 rfl ?_
      obtain ⟨h40, hv⟩ := hv
      obtain ⟨b41, h42, hv⟩ := hv
      refine z_getP dX10_split_59 zf_X10_18 h40.1 h40.2 (fun _ _ _ _ _ => rfl) h42 ?_
      refine z_iload dX10_split_62 rfl ?_
      obtain ⟨n44, h43, hv⟩ := hv
      obtain ⟨h45, hv⟩ := hv
      refine z_iaload dX10_split_64 h43.1 h43.2 h45 ?_
      refine z_iconst (v := (-1)) dX10_split_65 (by decide) ?_
      refine z_icmp_ne (tgt := 78) dX10_split_66 (by decide) (fun q46 => ?_) (fun q46 => ?_)
      · have hv := hv.1 q46
        refine z_aload dX10_split_78 rfl ?_
        refine z_iload dX10_split_80 rfl ?_
        refine z_aload_n dX10_split_82 rfl ?_
        refine z_getP dX10_split_83 zf_X10_18 h40.1 h40.2 (fun _ _ _ _ _ => rfl) h42 ?_
        refine z_iload dX10_split_86 rfl ?_
        refine z_iaload dX10_split_88 h43.1 h43.2 h45 ?_
        refine z_iastore dX10_split_89 h20.1 h20.2 h22 (z_nmI (fun I48 e47 => ?_))
        have hv := hv I48 e47
        refine z_iinc (v2 := x5 + 1) (lv2 := [some (.ref a), none, some (.ref p2), some (.ref p3), some (.ref x4), some (.int (x5 + 1)), some (.int (I b15 x5.toNatClampNeg)), some (.int (((2 : Int32) * (I x4 (I b15 x5.toNatClampNeg).toNatClampNeg)) + 1))]) dX10_split_90 rfl (by rfl) (by decide) rfl rfl ?_
        refine z_goto (tgt := 18) dX10_split_93 (by decide) ?_
        exact z_sub (by exact ⟨rfl, ⟨rfl, ⟨rfl, ⟨rfl, ⟨rfl, trivial⟩⟩⟩⟩⟩) hv
      · have hv := hv.2 q46
        refine z_aload_n dX10_split_69 rfl ?_
        refine z_getP dX10_split_70 zf_X10_18 h40.1 h40.2 (fun _ _ _ _ _ => rfl) h42 ?_
        refine z_iload dX10_split_73 rfl ?_
        refine z_iload dX10_split_75 rfl ?_
        refine z_iastore dX10_split_77 h43.1 h43.2 h45 (z_nmI (fun I50 e49 => ?_))
        have hv := hv I50 e49
        refine z_aload dX10_split_78 rfl ?_
        refine z_iload dX10_split_80 rfl ?_
        refine z_aload_n dX10_split_82 rfl ?_
        refine z_getP dX10_split_83 zf_X10_18 h40.1 h40.2 (fun _ _ _ _ _ => rfl) h42 ?_
        refine z_iload dX10_split_86 rfl ?_
        refine z_iaload dX10_split_88 h43.1 h43.2 h45 ?_
        refine z_iastore dX10_split_89 h20.1 h20.2 h22 (z_nmI (fun I52 e51 => ?_))
        have hv := hv I52 e51
        refine z_iinc (v2 := x5 + 1) (lv2 := [some (.ref a), none, some (.ref p2), some (.ref p3), some (.ref x4), some (.int (x5 + 1)), some (.int (I b15 x5.toNatClampNeg)), some (.int (((2 : Int32) * (I x4 (I b15 x5.toNatClampNeg).toNatClampNeg)) + 1))]) dX10_split_90 rfl (by rfl) (by decide) rfl rfl ?_
        refine z_goto (tgt := 18) dX10_split_93 (by decide) ?_
        exact z_sub (by exact ⟨rfl, ⟨rfl, ⟨rfl, ⟨rfl, ⟨rfl, trivial⟩⟩⟩⟩⟩) hv
abbrev v_X10_split (d : Nat) (Q : zQt) (a : Nat) (p1 : Int32) (p2 : Nat) (p3 : Nat) (I : zI) (L : zL) (P : zP) : Prop :=
  (a < 205 ∧ (zsh a).1 = 9) ∧
  vw a ∧
  vp_in p1 8 ∧
  ∃ b6 : Nat, P a 1 = some b6 ∧
  zMv zm_J7_fill_53178 d [.ref b6, .int (-1)] I L P (fun I8 L9 P10 =>
    gw_X10_split (d + 1) Q 18 [some (.ref a), none, some (.ref p2), some (.ref p3), some (.ref (a + 2 + (p1 : Int32).toNatClampNeg)), some (.int 0), none, none] [] I8 L9 P10
  )
set_option maxRecDepth 20000 in
theorem g_X10_split {d : Nat} {Q : zQt} {a : Nat} {p1 : Int32} {p2 : Nat} {p3 : Nat} {I : zI} {L : zL} {P : zP} (hP : zPk P) (hv : v_X10_split d Q a p1 p2 p3 I L P) : zM zm_X10_split (d + 1) 0 0 [.ref a, .int p1, .ref p2, .ref p3] I L P 205 Q := by
  unfold v_X10_split at hv
  refine zM_of (lv0 := [some (.ref a), some (.int p1), some (.ref p2), some (.ref p3), none, none, none, none]) (by decide +kernel) (Nat.le_of_ble_eq_true rfl) rfl ?_
  refine z_aload_n dX10_split_0 rfl ?_
  refine z_iload_n dX10_split_1 rfl ?_
  obtain ⟨h1, hv⟩ := hv
  obtain ⟨h2, hv⟩ := hv
  obtain ⟨h3, hv⟩ := hv
  refine z_callV (As := [.int p1]) (st := []) dX10_split_2 zl_X10_33 zv_X10_of (by decide) rfl h1.1 h1.2 rfl rfl (Nat.le_of_ble_eq_true rfl) ⟨Nat.le_refl _, Nat.le_refl _⟩ ⟨Nat.le_refl _, Nat.le_refl _⟩ (sp_X10_of hP h2 h3 (K := fun r I' L' P' => a + 2 + (p1 : Int32).toNatClampNeg = r ∧ I = I' ∧ L = L' ∧ P = P') ⟨rfl, rfl, rfl, rfl⟩) (fun v1 I2 L2 P2 nx1 q5 => ?_)
  obtain ⟨rfl, r4, rfl, rfl, rfl, rfl, rfl⟩ := q5
  refine z_astore (lv2 := [some (.ref a), some (.int p1), some (.ref p2), some (.ref p3), some (.ref (a + 2 + (p1 : Int32).toNatClampNeg)), none, none, none]) dX10_split_5 (by decide) rfl rfl ?_
  refine z_aload_n dX10_split_7 rfl ?_
  obtain ⟨b6, h7, hv⟩ := hv
  refine z_getP dX10_split_8 zf_X10_18 h1.1 h1.2 (fun _ _ _ _ _ => rfl) h7 ?_
  refine z_iconst (v := (-1)) dX10_split_11 (by decide) ?_
  refine z_callS (As := [.ref b6, .int (-1)]) (st := []) dX10_split_12 zl_X10_37 zs_J7_fill_53178 rfl rfl (Nat.le_of_ble_eq_true rfl) ⟨Nat.le_refl _, Nat.le_refl _⟩ ⟨Nat.le_refl _, Nat.le_refl _⟩ hv (fun v1 I8 L9 P10 nx1 q11 => ?_)
  obtain ⟨rfl, rfl, hv⟩ := q11
  refine z_iconst (v := 0) dX10_split_15 (by decide) ?_
  refine z_istore (lv2 := [some (.ref a), some (.int p1), some (.ref p2), some (.ref p3), some (.ref (a + 2 + (p1 : Int32).toNatClampNeg)), some (.int 0), none, none]) dX10_split_16 (by decide) rfl rfl ?_
  exact z_sub (by exact ⟨rfl, ⟨rfl, ⟨rfl, ⟨rfl, ⟨rfl, trivial⟩⟩⟩⟩⟩) hv
/-- groups when they have parted: by the first of each kind -/
def gKy (g : Nat → Nat) (r : Nat → Int32) (w : Nat) : Nat := 2 * g w + (if r w = 0 then 0 else 1)
section SPL
variable {d : Nat} {Q : zQt} {I0 : zI} {L : zL} {P : zP} {s l v p r : Nat} {xs : List Nat} {g : Nat → Nat}
/-- what stands in the firsts behind zs -/
def sFi (vv : Nat) (g : Nat → Nat) (rr : Nat → Int32) (I : zI) (zs : List Nat) : Prop := ∀ k, k < 512 → (I (vv + 10) k = -1 ∧ ∀ w ∈ zs, ¬ gKy g rr w = k) ∨ ∃ x ∈ zs, gKy g rr x = k ∧ I (vv + 10) k = nI x
theorem lp_X10_split (hP : zPk P) {vv : Nat} (hv : vw vv) (hsc : sc s l v) (hp : p < 8) (hr : r < 205 ∧ zsh r = (100, 256)) (hr2 : r = 25 ∨ r = 106) (hS : cS s l I0 xs) (hd : xs.Nodup) (hg : cG vv p I0 xs g)
    (kk : ∀ I, cFr [vv + 2 + p, vv + 10] I0 I → (∀ w ∈ xs, ∃ x ∈ xs, gKy g (I0 r) x = gKy g (I0 r) w ∧ I (vv + 2 + p) w = nI x ∧ I (vv + 10) (gKy g (I0 r) w) = nI x) → Q none I L P 205) :
    ∀ ys zs I, xs = zs ++ ys → cFr [vv + 2 + p, vv + 10] I0 I → (∀ w ∈ ys, I (vv + 2 + p) w = I0 (vv + 2 + p) w) → (∀ w ∈ zs, ∃ x ∈ zs, gKy g (I0 r) x = gKy g (I0 r) w ∧ I (vv + 2 + p) w = nI x ∧ I (vv + 10) (gKy g (I0 r) w) = nI x) → sFi vv g (I0 r) I zs →
      gw_X10_split (d + 1) Q 18 [some (.ref vv), none, some (.ref r), some (.ref s), some (.ref (vv + 2 + p)), some (.int (nI zs.length)), none, none] [] I L P := by
  obtain ⟨p1, p2, p3, p4⟩ := sc_P hsc hP
  obtain ⟨v1, v2, v3, v4, v5, v6⟩ := vw_P hv hP
  have hsc2 := hsc
  unfold sc at hsc2
  have hv2 := hv
  unfold vw at hv2
  intro ys
  induction ys with
  | nil =>
    intro zs I e hf h1 h2 h3
    rw [List.append_nil] at e
    subst e
    have hS1 := cS_c hS (show I s 3 = I0 s 3 by rw [hf s (by simp only [List.mem_cons, List.not_mem_nil, or_false]; omega)]) (hf l (by simp only [List.mem_cons, List.not_mem_nil, or_false]; omega))
    exact g_X10_split_18 hP ⟨p1, fun _ => kk I hf h2, fun q => absurd (cS_end hS1) q⟩
  | cons x ys ih =>
    intro zs I e hf h1 h2 h3
    have hS1 := cS_c hS (show I s 3 = I0 s 3 by rw [hf s (by simp only [List.mem_cons, List.not_mem_nil, or_false]; omega)]) (hf l (by simp only [List.mem_cons, List.not_mem_nil, or_false]; omega))
    obtain ⟨a1, a2, a3, a4, a5, a6, a7, a8, a9⟩ := cS_on hS1 e
    have e' : xs = (zs ++ [x]) ++ ys := by rw [e, List.append_assoc]; rfl
    obtain ⟨g1, g2'⟩ := hg x a7
    have g2 : I (vv + 2 + p) x = nI (g x) := by rw [h1 x (by simp)]; exact g2'
    have er : I r = I0 r := hf r (by simp only [List.mem_cons, List.not_mem_nil, or_false]; omega)
    have hnx : x ∉ ys ∧ x ∉ zs := by
      rw [e, List.nodup_append] at hd
      exact ⟨fun z => (List.nodup_cons.mp hd.2.1).1 z, fun z => hd.2.2 x z x (by simp) rfl⟩
    have hky : gKy g (I0 r) x < 512 := by unfold gKy; split <;> omega
    have old : ∀ y, y ∈ zs → gKy g (I0 r) y = gKy g (I0 r) x → I (vv + 10) (gKy g (I0 r) x) = nI y → ∀ J : zI, J = zuI I (vv + 2 + p) x (nI y) → gw_X10_split (d + 1) Q 18 [some (.ref vv), none, some (.ref r), some (.ref s), some (.ref (vv + 2 + p)), some (.int (nI zs.length + 1)), none, none] [] J L P := by
      intro y hy ey ef J eJ
      subst eJ
      rw [a8]
      refine ih (zs ++ [x]) _ e' (cFr_c hf (by simp)) (fun w hw => ?_) (fun w hw => ?_) (fun k hk => ?_)
      · rw [zuI_o (show w ≠ x from fun z => hnx.1 (z ▸ hw))]; exact h1 w (by simp [hw])
      · rcases mem_snoc.mp hw with z | z
        · obtain ⟨u, hu, b1, b2, b3⟩ := h2 w z
          exact ⟨u, mem_snoc.mpr (Or.inl hu), b1, by rw [zuI_o (show w ≠ x from fun q => hnx.2 (q ▸ z))]; exact b2, by rw [zuI_ne (by omega)]; exact b3⟩
        · subst z
          exact ⟨y, mem_snoc.mpr (Or.inl hy), ey, zuI_v _ _ _ _, by rw [zuI_ne (by omega)]; exact ef⟩
      · rw [zuI_ne (by omega)]
        rcases h3 k hk with ⟨b1, b2⟩ | ⟨u, b1, b2, b3⟩
        · refine Or.inl ⟨b1, fun w hw => ?_⟩
          rcases mem_snoc.mp hw with z | z
          · exact b2 w z
          · subst z; rw [← ey]; exact b2 y hy
        · exact Or.inr ⟨u, mem_snoc.mpr (Or.inl b1), b2, b3⟩
    have new : I (vv + 10) (gKy g (I0 r) x) = -1 → (∀ w ∈ zs, ¬ gKy g (I0 r) w = gKy g (I0 r) x) → ∀ J1 : zI, J1 = zuI I (vv + 10) (gKy g (I0 r) x) (nI x) → ∀ J : zI, J = zuI J1 (vv + 2 + p) x (J1 (vv + 10) (gKy g (I0 r) x)) → gw_X10_split (d + 1) Q 18 [some (.ref vv), none, some (.ref r), some (.ref s), some (.ref (vv + 2 + p)), some (.int (nI zs.length + 1)), none, none] [] J L P := by
      intro ef hn J1 eJ1 J eJ
      rw [eJ1, zuI_v] at eJ
      subst eJ
      rw [a8]
      refine ih (zs ++ [x]) _ e' (cFr_c (cFr_c hf (by simp)) (by simp)) (fun w hw => ?_) (fun w hw => ?_) (fun k hk => ?_)
      · rw [zuI_o (show w ≠ x from fun z => hnx.1 (z ▸ hw)), zuI_ne (by omega)]; exact h1 w (by simp [hw])
      · rcases mem_snoc.mp hw with z | z
        · obtain ⟨u, hu, b1, b2, b3⟩ := h2 w z
          refine ⟨u, mem_snoc.mpr (Or.inl hu), b1, by rw [zuI_o (show w ≠ x from fun q => hnx.2 (q ▸ z)), zuI_ne (by omega)]; exact b2, ?_⟩
          rw [zuI_ne (by omega), zuI_o (hn w z)]; exact b3
        · subst z
          exact ⟨w, mem_snoc.mpr (Or.inr rfl), rfl, zuI_v _ _ _ _, by rw [zuI_ne (by omega), zuI_v]⟩
      · rw [zuI_ne (by omega)]
        by_cases ek : k = gKy g (I0 r) x
        · subst ek
          exact Or.inr ⟨x, mem_snoc.mpr (Or.inr rfl), rfl, zuI_v _ _ _ _⟩
        · rw [zuI_o ek]
          rcases h3 k hk with ⟨b1, b2⟩ | ⟨u, b1, b2, b3⟩
          · refine Or.inl ⟨b1, fun w hw => ?_⟩
            rcases mem_snoc.mp hw with z | z
            · exact b2 w z
            · subst z; exact Ne.symm ek
          · exact Or.inr ⟨u, mem_snoc.mpr (Or.inl b1), b2, b3⟩
    have cs := h3 (gKy g (I0 r) x) hky
    have n256 : ∀ y, y ∈ zs → ¬ nI y = -1 := by
      intro y hy z
      have : y < 256 := hS.2.2.1 y (by rw [e]; simp [hy])
      have := congrArg Int32.toInt z
      rw [nI_toInt (by omega)] at this
      have h1 : (-1 : Int32).toInt = -1 := by decide
      omega
    have both : ∀ k : Int32, k = nI (gKy g (I0 r) x) → vp_in k 512 ∧ ((¬ I (vv + 10) k.toNatClampNeg = -1 → ∀ J : zI, J = zuI I (vv + 2 + p) (I l (nI zs.length).toNatClampNeg).toNatClampNeg (I (vv + 10) k.toNatClampNeg) → gw_X10_split (d + 1) Q 18 [some (.ref vv), none, some (.ref r), some (.ref s), some (.ref (vv + 2 + p)), some (.int (nI zs.length + 1)), none, none] [] J L P) ∧ (I (vv + 10) k.toNatClampNeg = -1 → ∀ J1 : zI, J1 = zuI I (vv + 10) k.toNatClampNeg (I l (nI zs.length).toNatClampNeg) → ∀ J : zI, J = zuI J1 (vv + 2 + p) (I l (nI zs.length).toNatClampNeg).toNatClampNeg (J1 (vv + 10) k.toNatClampNeg) → gw_X10_split (d + 1) Q 18 [some (.ref vv), none, some (.ref r), some (.ref s), some (.ref (vv + 2 + p)), some (.int (nI zs.length + 1)), none, none] [] J L P)) := by
      rintro k rfl
      rw [nI_cl (by omega), a3, a5]
      refine ⟨nx_in hky (by decide), fun q J eJ => ?_, fun q => ?_⟩
      · rcases cs with ⟨b1, -⟩ | ⟨y, b1, b2, b3⟩
        · exact absurd b1 q
        · rw [b3] at eJ
          exact old y b1 b2 b3 J eJ
      · rcases cs with ⟨b1, b2⟩ | ⟨y, b1, b2, b3⟩
        · exact new b1 b2
        · rw [b3] at q; exact absurd q (n256 y b1)
    refine g_X10_split_18 hP ⟨p1, fun q => absurd q a1, fun _ => ⟨l, p2, 256, p3, a2, 256, (v6 p hp).2, by rw [a3]; exact a6, 256, hr, by rw [a3]; exact a6, fun q => ⟨v1, vv + 10, v4, 512, v5, ?_⟩, fun q => ⟨v1, vv + 10, v4, 512, v5, ?_⟩⟩⟩
    · rw [a3, a5, er] at q
      refine both _ ?_
      rw [a3, a5, g2, show (2 : Int32) = nI 2 from rfl, pk_mul, show (0 : Int32) = nI 0 from rfl, nI_add]
      unfold gKy; rw [if_pos q]
    · rw [a3, a5, er] at q
      refine both _ ?_
      rw [a3, a5, g2, show (2 : Int32) = nI 2 from rfl, pk_mul, show (1 : Int32) = nI 1 from rfl, nI_add]
      unfold gKy; rw [if_neg q]
end SPL
theorem sp_X10_split {d : Nat} {I : zI} {L : zL} {P : zP} {s l v vv p r : Nat} {xs : List Nat} {g : Nat → Nat} (hP : zPk P) (hv : vw vv) (hsc : sc s l v) (hp : p < 8) (hr2 : r = 25 ∨ r = 106) (hS : cS s l I xs) (hd : xs.Nodup) (hg : cG vv p I xs g) (hd1 : 1 ≤ d) {K : zI → zL → zP → Prop}
    (kk : ∀ I' (g' : Nat → Nat), cFr [vv + 2 + p, vv + 10] I I' → cG vv p I' xs g' → (∀ a ∈ xs, ∀ b ∈ xs, (g' a = g' b ↔ g a = g b ∧ (I r a = 0 ↔ I r b = 0))) → K I' L P) : zMv zm_X10_split d [.ref vv, .int (nI p), .ref r, .ref s] I L P K := by
  obtain ⟨d, rfl⟩ : ∃ e, d = e + 1 := ⟨d - 1, by omega⟩
  obtain ⟨v1, v2, v3, v4, v5, v6⟩ := vw_P hv hP
  have hsc2 := hsc
  unfold sc at hsc2
  have hv2 := hv
  unfold vw at hv2
  have hr : r < 205 ∧ zsh r = (100, 256) := by rcases hr2 with rfl | rfl <;> exact ⟨by decide, rfl⟩
  refine g_X10_split hP ?_
  unfold v_X10_split
  rw [nI_cl (show p < 2 ^ 31 by omega)]
  refine ⟨v1, hv, nx_in hp (by decide), vv + 10, v4, sp_fill hP v5 (by decide) (fun I1 f1 f2 => ?_)⟩
  refine lp_X10_split hP hv hsc hp hr hr2 (I0 := I1) (cS_c hS (by rw [f1 s (by simp only [List.mem_cons, List.not_mem_nil, or_false]; omega)]) (f1 l (by simp only [List.mem_cons, List.not_mem_nil, or_false]; omega))) hd (cG_c hg (f1 (vv + 2 + p) (by simp only [List.mem_cons, List.not_mem_nil, or_false]; omega))) (fun I2 f3 f4 => qv ?_) xs [] I1 rfl (cFr_rf _ _) (fun _ _ => rfl) (fun w hw => absurd hw (by simp)) (fun k hk => Or.inl ⟨f2 k hk, fun w hw => absurd hw (by simp)⟩)
  have er : I1 r = I r := f1 r (by simp only [List.mem_cons, List.not_mem_nil, or_false]; omega)
  rw [er] at f4
  refine kk I2 (fun w => (I2 (vv + 2 + p) w).toNatClampNeg) (cFr_tr (cFr_wk f1 (by simp)) f3) (fun w hw => ?_) (fun a ha b hb => ?_)
  · obtain ⟨x, hx, -, b2, -⟩ := f4 w hw
    have := hS.2.2.1 x hx
    show (I2 (vv + 2 + p) w).toNatClampNeg < 256 ∧ I2 (vv + 2 + p) w = nI (I2 (vv + 2 + p) w).toNatClampNeg
    rw [b2, nI_cl (by omega)]
    exact ⟨this, rfl⟩
  · obtain ⟨x, hx, b1, b2, b3⟩ := f4 a ha
    obtain ⟨y, hy, c1, c2, c3⟩ := f4 b hb
    have x2 := hS.2.2.1 x hx
    have y2 := hS.2.2.1 y hy
    show (I2 (vv + 2 + p) a).toNatClampNeg = (I2 (vv + 2 + p) b).toNatClampNeg ↔ _
    rw [b2, c2, nI_cl (by omega), nI_cl (by omega)]
    have kxy : gKy g (I r) a = gKy g (I r) b ↔ g a = g b ∧ (I r a = 0 ↔ I r b = 0) := by
      unfold gKy
      by_cases ha : I r a = 0 <;> by_cases hb : I r b = 0
      · rw [if_pos ha, if_pos hb]; exact ⟨fun z => ⟨by omega, fun _ => hb, fun _ => ha⟩, fun z => by rw [z.1]⟩
      · rw [if_pos ha, if_neg hb]; exact ⟨fun z => by omega, fun z => absurd (z.2.mp ha) hb⟩
      · rw [if_neg ha, if_pos hb]; exact ⟨fun z => by omega, fun z => absurd (z.2.mpr hb) ha⟩
      · rw [if_neg ha, if_neg hb]; exact ⟨fun z => ⟨by omega, fun q => absurd q ha, fun q => absurd q hb⟩, fun z => by rw [z.1]⟩
    rw [← kxy, ← b1, ← c1]
    constructor
    · intro z; rw [z]
    · intro z
      rw [← b1, z, c1, c3] at b3
      exact ((nI_eq (by omega) (by omega)).mp b3).symm
