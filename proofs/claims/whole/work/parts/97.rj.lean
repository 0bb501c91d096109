/-! ===== the class: sayings, and a whole island ===== -/
section LN3
variable {d : Nat} {Q : zQt} {T : Nat → Int32} {n t e : Nat} {I I0 : zI} {L L0 : zL} {P : zP} {A : Ai}
abbrev gw_X2_endSaying (d : Nat) (Q : zQt) (pc : Nat) (lv : zV) (st : List Value) (I : zI) (L : zL) (P : zP) : Prop := zW zm_X2_endSaying (zRm d 0 0) 0 0 Q pc lv st I L P 205 0 0
abbrev v_X2_endSaying (d : Nat) (Q : zQt) (a : Nat) (I : zI) (L : zL) (P : zP) : Prop :=
  (a < 205 ∧ (zsh a).1 = 2) ∧
  ((6 ≤ (I a 4) →
    Q none I L P 205
  ) ∧ (¬ 6 ≤ (I a 4) →
    ∀ I3 : zI, I3 = zuI I a 4 ((I a 4) + 1) →
    ∃ b5 : Nat, P a 11 = some b5 ∧
    ∃ b7 : Nat, P a 10 = some b7 ∧
    (b7 < 205 ∧ (zsh b7).1 = 0) ∧
    ∃ n11, (b5 < 205 ∧ zsh b5 = (100, n11)) ∧
    vp_in (I3 a 4) n11 ∧
    ∀ I14 : zI, I14 = zuI I3 b5 (I3 a 4).toNatClampNeg (I3 b7 1) →
    Q none I14 L P 205
  ))
set_option maxRecDepth 20000 in
theorem g_X2_endSaying {d : Nat} {Q : zQt} {a : Nat} {I : zI} {L : zL} {P : zP} (hP : zPk P) (hv : v_X2_endSaying d Q a I L P) : zM zm_X2_endSaying d 0 0 [.ref a] I L P 205 Q := by
  unfold v_X2_endSaying at hv
  refine zM_of (lv0 := [some (.ref a)]) (by decide +kernel) (Nat.le_of_ble_eq_true rfl) rfl ?_
  refine z_aload_n dX2_endSaying_0 rfl ?_
  obtain ⟨h1, hv⟩ := hv
  refine z_getI dX2_endSaying_1 zf_X2_42 h1.1 h1.2 (fun _ _ _ _ _ => rfl) ?_
  refine z_bipush (v := 6) dX2_endSaying_4 (by decide) ?_
  refine z_icmp_ge (tgt := 35) dX2_endSaying_6 (by decide) (fun q2 => ?_) (fun q2 => ?_)
  · have hv := hv.1 q2
    exact z_return dX2_endSaying_35 rfl (Nat.le_refl _) (Nat.le_refl _) hv
  · have hv := hv.2 q2
    refine z_aload_n dX2_endSaying_9 rfl ?_
    refine z_dup dX2_endSaying_10 rfl ?_
    refine z_getI dX2_endSaying_11 zf_X2_42 h1.1 h1.2 (fun _ _ _ _ _ => rfl) ?_
    refine z_iconst (v := 1) dX2_endSaying_14 (by decide) ?_
    refine z_iadd dX2_endSaying_15 ?_
    refine z_putI dX2_endSaying_16 zf_X2_42 h1.1 h1.2 (Or.inl rfl) (fun _ _ _ _ _ => rfl) rfl rfl (z_nmI (fun I3 e4 => ?_))
    have hv := hv I3 e4
    refine z_aload_n dX2_endSaying_19 rfl ?_
    obtain ⟨b5, h6, hv⟩ := hv
    refine z_getP dX2_endSaying_20 zf_X2_26 h1.1 h1.2 (fun _ _ _ _ _ => rfl) h6 ?_
    refine z_aload_n dX2_endSaying_23 rfl ?_
    refine z_getI dX2_endSaying_24 zf_X2_42 h1.1 h1.2 (fun _ _ _ _ _ => rfl) ?_
    refine z_aload_n dX2_endSaying_27 rfl ?_
    obtain ⟨b7, h8, hv⟩ := hv
    refine z_getP dX2_endSaying_28 zf_X2_22 h1.1 h1.2 (fun _ _ _ _ _ => rfl) h8 ?_
    obtain ⟨h9, hv⟩ := hv
    refine z_getI dX2_endSaying_31 zf_X2_52 h9.1 h9.2 (fun _ _ _ _ _ => rfl) ?_
    obtain ⟨n11, h10, hv⟩ := hv
    obtain ⟨h12, hv⟩ := hv
    refine z_iastore dX2_endSaying_34 h10.1 h10.2 h12 (z_nmI (fun I14 e13 => ?_))
    have hv := hv I14 e13
    exact z_return dX2_endSaying_35 rfl (Nat.le_refl _) (Nat.le_refl _) hv
theorem sp_X2_endSaying {ns : Nat} (hP : zPk P) (ht : il t) (h4 : I t 4 = nI ns) (hn : ns ≤ 6) {K : zI → zL → zP → Prop} (k6 : ns = 6 → K I L P) (kk : ns < 6 → K (zuI (zuI I t 4 (nI (ns + 1))) (t + 5) (ns + 1) (I (t + 3) 1)) L P) : zMv zm_X2_endSaying d [.ref t] I L P K := by
  obtain ⟨b1, b2, b3, b4, b5, b6⟩ := il_P ht hP
  refine g_X2_endSaying hP ⟨b1, fun q => qv (k6 ?_), fun q I3 e3 => ?_⟩
  · rw [h4, show (6 : Int32) = nI 6 from rfl, nI_leI (by decide) (by omega)] at q; omega
  · rw [h4, show (6 : Int32) = nI 6 from rfl, nI_leI (by decide) (by omega)] at q
    rw [h4, nI_1] at e3
    have e4 : I3 t 4 = nI (ns + 1) := by rw [e3, zuI_v]
    have e5 : I3 (t + 3) 1 = I (t + 3) 1 := by rw [e3, zuI_ne (by omega)]
    rw [e4, nI_cl (by omega)]
    exact ⟨t + 5, b6.1, t + 3, b4.1, b4.2, 7, b6.2, nx_in (by omega) (by decide), fun I12 e12 => qv (by rw [e12, e5, e3]; exact kk (by omega))⟩
/-- where the next saying starts -/
theorem cI_st (hf : cFi t I0 I) (h : cI t I L A) : I (t + 5) (A.1 3) = nI (A.1 (30 + A.1 3)) := by
  obtain ⟨h0, h1, h2, h3, h4, h5, h6, hk, hc, hs⟩ := h
  by_cases c : A.1 3 = 0
  · rw [c, hf.2.2, show 30 + 0 = 30 from rfl, hc.2.2.2]; rfl
  · obtain ⟨m, hm⟩ : ∃ m, A.1 3 = m + 1 := ⟨A.1 3 - 1, by omega⟩
    rw [hm]
    exact (hs m (by omega)).2.2.2.1
/-- a saying is ended -/
theorem cI_en {I' : zI} {u : Nat} {c : Cd} (ht : il t) (h : cI t I L A) (hs5 : I (t + 5) (A.1 3) = nI (A.1 (30 + A.1 3))) (h6 : A.1 3 < 6) (hf : cFr [17, t + 3, t + 4] I I') (hu : u ≤ 60) (h17 : I' 17 6 = nI u) (hl : A.1 (30 + A.1 3) + c.length ≤ 9 * u) (h31 : I' (t + 3) 1 = nI (A.1 (30 + A.1 3) + c.length)) (hpre : ∀ j, j < A.1 (30 + A.1 3) → I' (t + 4) j = I (t + 4) j) (hc : cT (t + 3) I' (A.1 (30 + A.1 3)) c) :
    cI t (zuI (zuI I' t 4 (nI (A.1 3 + 1))) (t + 5) (A.1 3 + 1) (I' (t + 3) 1)) L (aSay A u c) := by
  obtain ⟨g0, g1, g2, g3, g4, g5, g6, gk, gc, gs⟩ := h
  unfold il at ht
  have a3 : (aSay A u c).1 3 = A.1 3 + 1 := aU_v _ _ _
  have a4 : (aSay A u c).1 4 = u := by unfold aSay; rw [aU_o (by omega), aU_v]
  have ae : (aSay A u c).1 (30 + (A.1 3 + 1)) = A.1 (30 + A.1 3) + c.length := by unfold aSay; rw [aU_o (by omega), aU_o (by omega), aU_v]
  have ao : ∀ j, j ≠ 3 → j ≠ 4 → j ≠ 30 + (A.1 3 + 1) → (aSay A u c).1 j = A.1 j := fun j z1 z2 z3 => by unfold aSay; rw [aU_o z1, aU_o z2, aU_o z3]; rfl
  have an : (aSay A u c).2.1 = A.2.1 := rfl
  have ac : ∀ i, (aSay A u c).2.2 i = if i = A.1 3 then c else A.2.2 i := fun i => rfl
  have t4 : (zuI (zuI I' t 4 (nI (A.1 3 + 1))) (t + 5) (A.1 3 + 1) (I' (t + 3) 1)) t 4 = nI (A.1 3 + 1) := by rw [zuI_ne (by omega), zuI_v]
  have tk : ∀ k, k ≠ 4 → (zuI (zuI I' t 4 (nI (A.1 3 + 1))) (t + 5) (A.1 3 + 1) (I' (t + 3) 1)) t k = I t k := fun k hk => by rw [zuI_ne (by omega), zuI_o hk, hf t (by simp only [List.mem_cons, List.not_mem_nil, or_false]; omega)]
  have oc : ∀ a, a ≠ t → a ≠ t + 5 → (zuI (zuI I' t 4 (nI (A.1 3 + 1))) (t + 5) (A.1 3 + 1) (I' (t + 3) 1)) a = I' a := fun a p q => by rw [zuI_ne q, zuI_ne p]
  have s5 : ∀ i, i ≠ A.1 3 + 1 → (zuI (zuI I' t 4 (nI (A.1 3 + 1))) (t + 5) (A.1 3 + 1) (I' (t + 3) 1)) (t + 5) i = I (t + 5) i := fun i hi => by rw [zuI_o hi, zuI_ne (by omega), hf (t + 5) (by simp only [List.mem_cons, List.not_mem_nil, or_false]; omega)]
  have s6 : (zuI (zuI I' t 4 (nI (A.1 3 + 1))) (t + 5) (A.1 3 + 1) (I' (t + 3) 1)) (t + 5) (A.1 3 + 1) = nI (A.1 (30 + A.1 3) + c.length) := by rw [zuI_v, h31]
  generalize (zuI (zuI I' t 4 (nI (A.1 3 + 1))) (t + 5) (A.1 3 + 1) (I' (t + 3) 1)) = J at t4 tk oc s5 s6
  unfold cI
  rw [ao 0 (by omega) (by omega) (by omega), ao 1 (by omega) (by omega) (by omega), ao 2 (by omega) (by omega) (by omega), a3, a4, ao 5 (by omega) (by omega) (by omega), ao 6 (by omega) (by omega) (by omega), ae, an, t4, tk 0 (by decide), tk 1 (by decide), tk 2 (by decide), tk 3 (by decide), tk 6 (by decide), tk 7 (by decide), oc 17 (by omega) (by omega), oc (t + 3) (by omega) (by omega), oc (t + 2) (by omega) (by omega), hf (t + 2) (by simp only [List.mem_cons, List.not_mem_nil, or_false]; omega)]
  refine ⟨g0, g1, ?_, g3, ⟨by omega, rfl⟩, g5, g6, fun k hk => ?_, ⟨⟨hu, h17⟩, h31, hl, by rw [ao 30 (by omega) (by omega) (by omega)]; exact gc.2.2.2⟩, fun i hi => ?_⟩
  · obtain ⟨s, a, b, c'⟩ := g2
    exact ⟨s, a, b, fun k hk' => by rw [ao _ (by omega) (by omega) (by omega)]; exact c' k hk'⟩
  · rw [ao _ (by omega) (by omega) (by omega)]; exact gk k hk
  · rw [ac i]
    by_cases ci : i = A.1 3
    · subst ci
      rw [if_pos rfl, ae, ao (30 + A.1 3) (by omega) (by omega) (by omega), s6, s5 _ (by omega)]
      exact ⟨rfl, Nat.le_refl _, hs5, rfl, cT_c hc (fun j _ => by rw [oc (t + 3 + 1) (by omega) (by omega)])⟩
    · obtain ⟨y1, y2, y3, y4, y5⟩ := gs i (by omega)
      rw [if_neg ci, ao (30 + i) (by omega) (by omega) (by omega), ao (30 + (i + 1)) (by omega) (by omega) (by omega), s5 _ (by omega), s5 _ (by omega)]
      refine ⟨y1, by omega, y3, y4, ?_⟩
      intro j x hj
      have := y5 j x hj
      have hjl : j < (A.2.2 i).length := by
        rcases Nat.lt_or_ge j (A.2.2 i).length with z | z
        · exact z
        · rw [List.getElem?_eq_none z] at hj; cases hj
      rw [oc (t + 3 + 1) (by omega) (by omega)]
      show I' (t + 4) _ = _
      rw [hpre _ (by omega)]
      exact this
noncomputable def lSa (T : Nat → Int32) (n : Nat) (A : Ai) (e : Nat) : Ln :=
  match fRd T n (aNm A) 60 e (A.1 4) with
  | .inl q => .inl q
  | .inr (e', u', c') => .inr (e', aSay A u' c')
theorem lSa_e : lSem T n (lSa T n A e) = lSem T n (lSay T n A e) := by
  unfold lSa lSay
  match fRd T n (aNm A) 60 e (A.1 4) with
  | .inl q => rfl
  | .inr (e', u', c') =>
    show _ = lSem T n (@ite _ (rkH (tK T n e') = 4) (Classical.propDecidable _) (lBad T n e') (.inr (e', aSay A u' c')))
    by_cases c : rkH (tK T n e') = 4
    · rw [if_pos c]
      have : tK T n e' ≠ 59 := fun z => by rw [z] at c; exact absurd c (by decide)
      show @ite _ (tK T n e' = 59) (Classical.propDecidable _) _ (lBad T n e') = lBad T n e'
      rw [if_neg this]
    · rw [if_neg c]
abbrev gw_X5_readSaying (d : Nat) (Q : zQt) (pc : Nat) (lv : zV) (st : List Value) (I : zI) (L : zL) (P : zP) : Prop := zW zm_X5_readSaying (zRm d 0 0) 0 0 Q pc lv st I L P 205 0 0
abbrev v_X5_readSaying (d : Nat) (Q : zQt)  (I : zI) (L : zL) (P : zP) : Prop :=
  ∃ b1 : Nat, P 17 3 = some b1 ∧
  (b1 < 205 ∧ (zsh b1).1 = 2) ∧
  (((I b1 4) < 6 →
    zMv zm_X5_advance d [.ref 17] I L P (fun I5 L6 P7 =>
      zMv zm_X5_readPart d [.ref 17, .int 0, .int 0] I5 L6 P7 (fun I10 L11 P12 =>
        ∃ b15 : Nat, P12 17 3 = some b15 ∧
        (b15 < 205 ∧ (zsh b15).1 = 2) ∧
        zMv zm_X2_endSaying d [.ref b15] I10 L11 P12 (fun I18 L19 P20 =>
          Q none I18 L19 P20 205
        )
      )
    )
  ) ∧ (¬ (I b1 4) < 6 →
    zMv zm_X5_fail d [.ref 17, .int 2] I L P (fun I23 L24 P25 =>
      zMv zm_X5_advance d [.ref 17] I23 L24 P25 (fun I28 L29 P30 =>
        zMv zm_X5_readPart d [.ref 17, .int 0, .int 0] I28 L29 P30 (fun I33 L34 P35 =>
          ∃ b38 : Nat, P35 17 3 = some b38 ∧
          (b38 < 205 ∧ (zsh b38).1 = 2) ∧
          zMv zm_X2_endSaying d [.ref b38] I33 L34 P35 (fun I41 L42 P43 =>
            Q none I41 L42 P43 205
          )
        )
      )
    )
  ))
set_option maxRecDepth 20000 in
theorem g_X5_readSaying {d : Nat} {Q : zQt}  {I : zI} {L : zL} {P : zP} (hP : zPk P) (hv : v_X5_readSaying d Q  I L P) : zM zm_X5_readSaying (d + 1) 0 0 [.ref 17] I L P 205 Q := by
  unfold v_X5_readSaying at hv
  refine zM_of (lv0 := [some (.ref 17)]) (by decide +kernel) (Nat.le_of_ble_eq_true rfl) rfl ?_
  refine z_aload_n dX5_readSaying_0 rfl ?_
  obtain ⟨b1, h2, hv⟩ := hv
  refine z_getP dX5_readSaying_1 zf_X5_41 zn_17 zo_17 (fun _ _ _ _ _ => rfl) h2 ?_
  obtain ⟨h3, hv⟩ := hv
  refine z_getI dX5_readSaying_4 zf_X5_153 h3.1 h3.2 (fun _ _ _ _ _ => rfl) ?_
  refine z_bipush (v := 6) dX5_readSaying_7 (by decide) ?_
  refine z_icmp_lt (tgt := 17) dX5_readSaying_9 (by decide) (fun q4 => ?_) (fun q4 => ?_)
  · have hv := hv.1 q4
    refine z_aload_n dX5_readSaying_17 rfl ?_
    refine z_callV (As := []) (st := []) dX5_readSaying_18 zl_X5_101 zv_X5_advance (by decide) rfl zn_17 zo_17 rfl rfl (Nat.le_of_ble_eq_true rfl) ⟨Nat.le_refl _, Nat.le_refl _⟩ ⟨Nat.le_refl _, Nat.le_refl _⟩ hv (fun v1 I5 L6 P7 nx1 q8 => ?_)
    obtain ⟨rfl, rfl, hv⟩ := q8
    refine z_aload_n dX5_readSaying_21 rfl ?_
    refine z_iconst (v := 0) dX5_readSaying_22 (by decide) ?_
    refine z_iconst (v := 0) dX5_readSaying_23 (by decide) ?_
    refine z_callV (As := [.int 0, .int 0]) (st := []) dX5_readSaying_24 zl_X5_86 zv_X5_readPart (by decide) rfl zn_17 zo_17 rfl rfl (Nat.le_of_ble_eq_true rfl) ⟨Nat.le_refl _, Nat.le_refl _⟩ ⟨Nat.le_refl _, Nat.le_refl _⟩ hv (fun v1 I10 L11 P12 nx1 q13 => ?_)
    obtain ⟨rfl, rfl, hv⟩ := q13
    refine z_aload_n dX5_readSaying_27 rfl ?_
    obtain ⟨b15, h16, hv⟩ := hv
    refine z_getP dX5_readSaying_28 zf_X5_41 zn_17 zo_17 (fun _ _ _ _ _ => rfl) h16 ?_
    obtain ⟨h17, hv⟩ := hv
    refine z_callV (As := []) (st := []) dX5_readSaying_31 zl_X5_156 zv_X2_endSaying (by decide) rfl h17.1 h17.2 rfl rfl (Nat.le_of_ble_eq_true rfl) ⟨Nat.le_refl _, Nat.le_refl _⟩ ⟨Nat.le_refl _, Nat.le_refl _⟩ hv (fun v1 I18 L19 P20 nx1 q21 => ?_)
    obtain ⟨rfl, rfl, hv⟩ := q21
    exact z_return dX5_readSaying_34 rfl (Nat.le_refl _) (Nat.le_refl _) hv
  · have hv := hv.2 q4
    refine z_aload_n dX5_readSaying_12 rfl ?_
    refine z_iconst (v := 2) dX5_readSaying_13 (by decide) ?_
    refine z_callV (As := [.int 2]) (st := []) dX5_readSaying_14 zl_X5_73 zv_X5_fail (by decide) rfl zn_17 zo_17 rfl rfl (Nat.le_of_ble_eq_true rfl) ⟨Nat.le_refl _, Nat.le_refl _⟩ ⟨Nat.le_refl _, Nat.le_refl _⟩ hv (fun v1 I23 L24 P25 nx1 q26 => ?_)
    obtain ⟨rfl, rfl, hv⟩ := q26
    refine z_aload_n dX5_readSaying_17 rfl ?_
    refine z_callV (As := []) (st := []) dX5_readSaying_18 zl_X5_101 zv_X5_advance (by decide) rfl zn_17 zo_17 rfl rfl (Nat.le_of_ble_eq_true rfl) ⟨Nat.le_refl _, Nat.le_refl _⟩ ⟨Nat.le_refl _, Nat.le_refl _⟩ hv (fun v1 I28 L29 P30 nx1 q31 => ?_)
    obtain ⟨rfl, rfl, hv⟩ := q31
    refine z_aload_n dX5_readSaying_21 rfl ?_
    refine z_iconst (v := 0) dX5_readSaying_22 (by decide) ?_
    refine z_iconst (v := 0) dX5_readSaying_23 (by decide) ?_
    refine z_callV (As := [.int 0, .int 0]) (st := []) dX5_readSaying_24 zl_X5_86 zv_X5_readPart (by decide) rfl zn_17 zo_17 rfl rfl (Nat.le_of_ble_eq_true rfl) ⟨Nat.le_refl _, Nat.le_refl _⟩ ⟨Nat.le_refl _, Nat.le_refl _⟩ hv (fun v1 I33 L34 P35 nx1 q36 => ?_)
    obtain ⟨rfl, rfl, hv⟩ := q36
    refine z_aload_n dX5_readSaying_27 rfl ?_
    obtain ⟨b38, h39, hv⟩ := hv
    refine z_getP dX5_readSaying_28 zf_X5_41 zn_17 zo_17 (fun _ _ _ _ _ => rfl) h39 ?_
    obtain ⟨h40, hv⟩ := hv
    refine z_callV (As := []) (st := []) dX5_readSaying_31 zl_X5_156 zv_X2_endSaying (by decide) rfl h40.1 h40.2 rfl rfl (Nat.le_of_ble_eq_true rfl) ⟨Nat.le_refl _, Nat.le_refl _⟩ ⟨Nat.le_refl _, Nat.le_refl _⟩ hv (fun v1 I41 L42 P43 nx1 q44 => ?_)
    obtain ⟨rfl, rfl, hv⟩ := q44
    exact z_return dX5_readSaying_34 rfl (Nat.le_refl _) (Nat.le_refl _) hv
theorem sp_X5_readSaying (hP : zPk P) (hR : cPr P t) (h : cLs T n t I0 L0 I L A e) (hn : n ≤ 1600) (hk : tK T n e = 264) (hd : 70 ≤ d) {K : zI → zL → zP → Prop}
    (kk : cW T n t I0 L0 (fun I' L' => K I' L' P) (@ite _ (aFull A 264) (Classical.propDecidable _) (lBad T n e) (lSa T n A (tE T n e)))) : zMv zm_X5_readSaying d [.ref 17] I L P K := by
  obtain ⟨d, rfl⟩ : ∃ e, d = e + 1 := ⟨d - 1, by omega⟩
  have ht := hR.2.2
  have r1 := hR.1
  have b1 := (il_P ht hP).1
  have hil := ht
  unfold il at hil
  have h4 := h.1.2.2.2.2.1
  have ef : aFull A 264 ↔ A.1 3 = 6 := Iff.rfl
  -- the end of a saying behind a fault
  have bad : ∀ (q : Nat × Nat) J, cW T n t I0 L0 (fun I' L' => K I' L' P) (.inl q) → cFi t I0 J → J t 4 = nI (A.1 3) → rB q.1 q.2 J → zMv zm_X2_endSaying d [.ref t] J L P (fun I' L' P' => (205 : Nat) = 205 ∧ (none : Option Value) = none ∧ K I' L' P') := by
    intro q J kk hf j4 hb
    refine sp_X2_endSaying hP ht j4 h4.1 (fun _ => qv (kk J L hf h.2.2.2.2 hb)) (fun _ => qv (kk _ L (cFi_5 (cFi_u hf (by simp)) (by omega)) h.2.2.2.2 (rB_c hb ?_)))
    rw [zuI_ne (by omega), zuI_ne (by omega)]
  refine g_X5_readSaying hP ⟨t, r1, b1, fun q => ?_, fun q => ?_⟩
  · rw [h4.2, show (6 : Int32) = nI 6 from rfl, nI_ltI (by omega) (by decide)] at q
    rw [if_neg (by rw [ef]; omega)] at kk
    refine sp_X5_advance hP h.2.1 (by omega) (by omega) (fun I2 f1 f2 => ?_)
    have h2 := cLs_m ht h f1 f2
    have e5 := cI_st h2.2.2.2.1 h2.1
    have hX : rX P t (A.1 0) (t + 3) 60 I2 := ⟨r1, hR.2.1, cI_H ht h2.1, by unfold co; omega, h2.2.2.1, by decide⟩
    have hc2 := h2.1.2.2.2.2.2.2.2.2.1
    refine sp_X5_readPart (lim := 60) (m := A.1 (30 + A.1 3)) (u := A.1 4) hP (by decide) hn hc2.1.1 (by omega) hX h2.2.1 hc2.1.2 hc2.2.1 (by omega) ?_
    rw [cI_nm h2.1]
    unfold lSa at kk
    have he := rG_e h2.2.1
    obtain ⟨r1', -⟩ := fRd_e (T := T) (n := n) (nm := aNm A) (lim := 60) (e := tE T n e) (u := A.1 4) he
    cases hres : fRd T n (aNm A) 60 (tE T n e) (A.1 4) with
    | inl q =>
      rw [hres] at kk
      intro I9 a1 a2 a3
      exact ⟨t, r1, b1, bad q I9 kk (cFi_m h2.2.2.2.1 a1 (by simp)) (by rw [a1 t (by simp only [List.mem_cons, List.not_mem_nil, or_false]; omega)]; exact h2.1.2.2.2.2.1.2) a2⟩
    | inr x =>
      obtain ⟨e', u', c⟩ := x
      rw [hres] at kk r1'
      have kk : cW T n t I0 L0 (fun I' L' => K I' L' P) (.inr (e', aSay A u' c)) := kk
      intro I9 a1 a2 a3 a4 a5 a6 a7 a8
      have hq := (desc_q (T := T) (n := n) (lim := 60) (nm := aNm A) (np := A.1 0) (fun v k h => by have := (nfD_lt h).2; omega) (2 * n + 3)).1 0 0 (tE T n e) (A.1 4) e' u' c r1' (by decide) (by decide)
      have hl := hq.2.1.2
      have j4 : I9 t 4 = nI (A.1 3) := by rw [a1 t (by simp only [List.mem_cons, List.not_mem_nil, or_false]; omega)]; exact h2.1.2.2.2.2.1.2
      refine ⟨t, r1, b1, sp_X2_endSaying hP ht j4 h4.1 (fun z => absurd z (by omega)) (fun _ => qv (kk _ L ?_))⟩
      have cf : cFi t I0 I9 := cFi_m h2.2.2.2.1 a1 (by simp)
      have hci := cI_en (u := u') (c := c) ht h2.1 e5 (by omega) a1 a5 a4 (by omega) a6 a7 a8
      have e17 : (zuI (zuI I9 t 4 (nI (A.1 3 + 1))) (t + 5) (A.1 3 + 1) (I9 (t + 3) 1)) 17 = I9 17 := by rw [zuI_ne (by omega), zuI_ne (by omega)]
      refine ⟨hci, rG_c a3 (fun k _ => by rw [e17]) ?_ ?_ ?_ rfl, by rw [e17, a2]; exact h2.2.2.1, cFi_5 (cFi_u cf (by simp)) (by omega), h2.2.2.2.2⟩
      · rw [zuI_ne (by omega), zuI_ne (by omega)]
      · rw [zuI_ne (by omega), zuI_ne (by omega)]
      · rw [zuI_ne (by omega), zuI_ne (by omega)]
  · rw [h4.2, show (6 : Int32) = nI 6 from rfl, nI_ltI (by omega) (by decide)] at q
    rw [if_pos (by rw [ef]; omega)] at kk
    refine sp_X5_fail (k := 2) hP h.2.1 (by decide) (by omega) (fun I2 g1 g2 => sp_X5_advanceB hP g2 (by omega) ?_)
    have j4 : I2 t 4 = nI (A.1 3) := by rw [g1.1 t (by simp only [List.mem_cons, List.not_mem_nil, or_false]; omega)]; exact h4.2
    refine sp_X5_readPartB (r := 0) hP g2 (by decide) (by omega) ⟨t, r1, b1, bad (mis T n e, tA T n e) I2 kk (cFi_m h.2.2.2.1 g1.1 (by simp)) j4 g2⟩
end LN3
