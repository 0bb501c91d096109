/-! ===== the class: an island as it is read ===== -/
abbrev iC (t : Nat) : List Nat := [17, t, t + 2, t + 3, t + 4, t + 5]
/-- the island t holds A -/
def cI (t : Nat) (I : zI) (L : zL) (A : Ai) : Prop :=
  (A.1 0 ≤ 8 ∧ I t 0 = nI (A.1 0)) ∧ (A.1 1 < 2 ^ A.1 0 ∧ I t 1 = nI (A.1 1)) ∧ (∃ s, s < 2 ^ A.1 0 ∧ I t 2 = nI s ∧ ∀ k, k < A.1 0 → (s.testBit k = true ↔ A.1 (20 + k) ≠ 0)) ∧ (A.1 2 ≤ 30 ∧ I t 3 = nI (A.1 2)) ∧ (A.1 3 ≤ 6 ∧ I t 4 = nI (A.1 3)) ∧ (A.1 5 ≤ 1 ∧ I t 6 = nI (A.1 5)) ∧ (A.1 6 ≤ 1 ∧ I t 7 = nI (A.1 6) ∧ (A.1 5 = 0 → A.1 6 = 0)) ∧
  (∀ k, k < A.1 0 → A.1 (10 + k) < 256 ∧ L (t + 1) k = A.2.1 k ∧ I (t + 2) k = nI (A.1 (10 + k) % 2 ^ A.1 0) ∧ (A.1 2 = 0 → ∀ j, A.1 0 ≤ j → j < 8 → (A.1 (10 + k)).testBit j = true)) ∧
  ((A.1 4 ≤ 60 ∧ I 17 6 = nI (A.1 4)) ∧ I (t + 3) 1 = nI (A.1 (30 + A.1 3)) ∧ A.1 (30 + A.1 3) ≤ 9 * A.1 4 ∧ A.1 30 = 0) ∧
  ∀ i, i < A.1 3 → A.1 (30 + (i + 1)) = A.1 (30 + i) + (A.2.2 i).length ∧ A.1 (30 + (i + 1)) ≤ A.1 (30 + A.1 3) ∧ I (t + 5) i = nI (A.1 (30 + i)) ∧ I (t + 5) (i + 1) = nI (A.1 (30 + (i + 1))) ∧ cT (t + 3) I (A.1 (30 + i)) (A.2.2 i)
theorem cI_c {t : Nat} {I I' : zI} {L L' : zL} {A : Ai} (h : cI t I L A) (e0 : I' t = I t) (e2 : I' (t + 2) = I (t + 2)) (e3 : I' (t + 3) = I (t + 3)) (e4 : I' (t + 4) = I (t + 4)) (e5 : I' (t + 5) = I (t + 5)) (e6 : I' 17 6 = I 17 6) (eL : L' (t + 1) = L (t + 1)) : cI t I' L' A := by
  unfold cI cT
  rw [e0, e2, e3, e5, e6, eL, show t + 3 + 1 = t + 4 from rfl, e4]
  exact h
section CI
variable {d : Nat} {T : Nat → Int32} {n t e : Nat} {I I0 : zI} {L L0 : zL} {P : zP} {A : Ai}
/-- what reading an island changes; the first saying's steps start at 0, always -/
def cFi (t : Nat) (I0 I : zI) : Prop := cFr (iC t) I0 I ∧ il t ∧ I (t + 5) 0 = 0
theorem cFi_m {cs : List Nat} {t : Nat} {I0 I I' : zI} (h : cFi t I0 I) (hf : cFr cs I I') (hc : ∀ a ∈ cs, a ∈ [17, t, t + 2, t + 3, t + 4]) : cFi t I0 I' := by
  obtain ⟨h1, h2, h3⟩ := h
  have hil := h2
  unfold il at hil
  refine ⟨cFr_tr h1 (cFr_wk hf (fun a ha => ?_)), h2, ?_⟩
  · have := hc a ha
    simp only [List.mem_cons, List.not_mem_nil, or_false] at this ⊢
    omega
  · rw [hf (t + 5) (fun z => ?_)]
    · exact h3
    · have := hc _ z
      simp only [List.mem_cons, List.not_mem_nil, or_false] at this
      omega
theorem cFi_u {t c k : Nat} {v : Int32} {I0 I : zI} (h : cFi t I0 I) (hc : c ∈ [17, t, t + 2, t + 3, t + 4]) : cFi t I0 (zuI I c k v) :=
  cFi_m h (cs := [c]) (cFr_c (cFr_rf _ _) (by simp)) (fun a ha => by rw [List.mem_singleton] at ha; rw [ha]; exact hc)
theorem cFi_5 {t k : Nat} {v : Int32} {I0 I : zI} (h : cFi t I0 I) (hk : k ≠ 0) : cFi t I0 (zuI I (t + 5) k v) :=
  ⟨cFr_c h.1 (by simp), h.2.1, by rw [zuI_o (Ne.symm hk)]; exact h.2.2⟩
/-- where the reading of an island stands -/
def cLs (T : Nat → Int32) (n t : Nat) (I0 : zI) (L0 : zL) (I : zI) (L : zL) (A : Ai) (e : Nat) : Prop := cI t I L A ∧ rG T n I L e ∧ I 17 5 = nI 60 ∧ cFi t I0 I ∧ ∀ x, x ≠ t + 1 → L x = L0 x
/-- where the reader reads -/
def cPr (P : zP) (t : Nat) : Prop := P 17 3 = some t ∧ P 17 4 = some (t + 3) ∧ il t
theorem cI_H (ht : il t) (h : cI t I L A) : iH t (A.1 0) I := ⟨ht, h.1⟩
theorem cI_nm (h : cI t I L A) : cnm L t (A.1 0) = aNm A := by
  funext v
  unfold cnm aNm
  exact nfD_c (fun k h1 h2 => (h.2.2.2.2.2.2.2.1 k (by omega)).2.1)
theorem cLs_m {I' : zI} {e' : Nat} (ht : il t) (h : cLs T n t I0 L0 I L A e) (hf : rF0 I I') (hG : rG T n I' L e') : cLs T n t I0 L0 I' L A e' := by
  obtain ⟨h1, h2, h3, h4, h5⟩ := h
  unfold il at ht
  exact ⟨cI_c h1 (hf.1 t (by simp only [List.mem_cons, List.not_mem_nil, or_false]; omega)) (hf.1 (t + 2) (by simp only [List.mem_cons, List.not_mem_nil, or_false]; omega)) (hf.1 (t + 3) (by simp only [List.mem_cons, List.not_mem_nil, or_false]; omega)) (hf.1 (t + 4) (by simp only [List.mem_cons, List.not_mem_nil, or_false]; omega)) (hf.1 (t + 5) (by simp only [List.mem_cons, List.not_mem_nil, or_false]; omega)) hf.2.2 rfl, hG, by rw [hf.2.1]; exact h3, cFi_m h4 hf.1 (by simp), h5⟩
/-- behind a line, or a part of it -/
def cW (T : Nat → Int32) (n t : Nat) (I0 : zI) (L0 : zL) (K : zI → zL → Prop) : Ln → Prop
  | .inl q => ∀ I' L', cFi t I0 I' → (∀ x, x ≠ t + 1 → L' x = L0 x) → rB q.1 q.2 I' → K I' L'
  | .inr (e, A) => ∀ I' L', cLs T n t I0 L0 I' L' A e → K I' L'
theorem cLs_bad {I' : zI} {q : Nat × Nat} {K : zI → zL → Prop} (h : cLs T n t I0 L0 I L A e) (hf : rF0 I I') (hb : rB q.1 q.2 I') (kk : cW T n t I0 L0 K (.inl q)) : K I' L :=
  kk I' L (cFi_m h.2.2.2.1 hf.1 (by simp)) h.2.2.2.2 hb
abbrev gw_X2_clear (d : Nat) (Q : zQt) (pc : Nat) (lv : zV) (st : List Value) (I : zI) (L : zL) (P : zP) : Prop := zW zm_X2_clear (zRm d 0 0) 0 0 Q pc lv st I L P 205 0 0
abbrev v_X2_clear (d : Nat) (Q : zQt) (a : Nat) (I : zI) (L : zL) (P : zP) : Prop :=
  (a < 205 ∧ (zsh a).1 = 2) ∧
  ∀ I2 : zI, I2 = zuI I a 0 0 →
  ∀ I4 : zI, I4 = zuI I2 a 1 0 →
  ∀ I6 : zI, I6 = zuI I4 a 2 0 →
  ∀ I8 : zI, I8 = zuI I6 a 3 0 →
  ∀ I10 : zI, I10 = zuI I8 a 4 0 →
  ∀ I12 : zI, I12 = zuI I10 a 6 0 →
  ∀ I14 : zI, I14 = zuI I12 a 7 0 →
  ∃ b16 : Nat, P a 10 = some b16 ∧
  (b16 < 205 ∧ (zsh b16).1 = 0) ∧
  ∀ I19 : zI, I19 = zuI I14 b16 1 0 →
  Q none I19 L P 205
set_option maxRecDepth 20000 in
theorem g_X2_clear {d : Nat} {Q : zQt} {a : Nat} {I : zI} {L : zL} {P : zP} (hP : zPk P) (hv : v_X2_clear d Q a I L P) : zM zm_X2_clear d 0 0 [.ref a] I L P 205 Q := by
  unfold v_X2_clear at hv
  refine zM_of (lv0 := [some (.ref a)]) (by decide +kernel) (Nat.le_of_ble_eq_true rfl) rfl ?_
  refine z_aload_n dX2_clear_0 rfl ?_
  refine z_iconst (v := 0) dX2_clear_1 (by decide) ?_
  obtain ⟨h1, hv⟩ := hv
  refine z_putI dX2_clear_2 zf_X2_29 h1.1 h1.2 (Or.inl rfl) (fun _ _ _ _ _ => rfl) rfl rfl (z_nmI (fun I2 e3 => ?_))
  have hv := hv I2 e3
  refine z_aload_n dX2_clear_5 rfl ?_
  refine z_iconst (v := 0) dX2_clear_6 (by decide) ?_
  refine z_putI dX2_clear_7 zf_X2_33 h1.1 h1.2 (Or.inl rfl) (fun _ _ _ _ _ => rfl) rfl rfl (z_nmI (fun I4 e5 => ?_))
  have hv := hv I4 e5
  refine z_aload_n dX2_clear_10 rfl ?_
  refine z_iconst (v := 0) dX2_clear_11 (by decide) ?_
  refine z_putI dX2_clear_12 zf_X2_36 h1.1 h1.2 (Or.inl rfl) (fun _ _ _ _ _ => rfl) rfl rfl (z_nmI (fun I6 e7 => ?_))
  have hv := hv I6 e7
  refine z_aload_n dX2_clear_15 rfl ?_
  refine z_iconst (v := 0) dX2_clear_16 (by decide) ?_
  refine z_putI dX2_clear_17 zf_X2_39 h1.1 h1.2 (Or.inl rfl) (fun _ _ _ _ _ => rfl) rfl rfl (z_nmI (fun I8 e9 => ?_))
  have hv := hv I8 e9
  refine z_aload_n dX2_clear_20 rfl ?_
  refine z_iconst (v := 0) dX2_clear_21 (by decide) ?_
  refine z_putI dX2_clear_22 zf_X2_42 h1.1 h1.2 (Or.inl rfl) (fun _ _ _ _ _ => rfl) rfl rfl (z_nmI (fun I10 e11 => ?_))
  have hv := hv I10 e11
  refine z_aload_n dX2_clear_25 rfl ?_
  refine z_iconst (v := 0) dX2_clear_26 (by decide) ?_
  refine z_putI dX2_clear_27 zf_X2_45 h1.1 h1.2 (Or.inl rfl) (fun _ _ _ _ _ => rfl) (by decide) (by decide) (z_nmI (fun I12 e13 => ?_))
  have hv := hv I12 e13
  refine z_aload_n dX2_clear_30 rfl ?_
  refine z_iconst (v := 0) dX2_clear_31 (by decide) ?_
  refine z_putI dX2_clear_32 zf_X2_49 h1.1 h1.2 (Or.inl rfl) (fun _ _ _ _ _ => rfl) (by decide) (by decide) (z_nmI (fun I14 e15 => ?_))
  have hv := hv I14 e15
  refine z_aload_n dX2_clear_35 rfl ?_
  obtain ⟨b16, h17, hv⟩ := hv
  refine z_getP dX2_clear_36 zf_X2_22 h1.1 h1.2 (fun _ _ _ _ _ => rfl) h17 ?_
  refine z_iconst (v := 0) dX2_clear_39 (by decide) ?_
  obtain ⟨h18, hv⟩ := hv
  refine z_putI dX2_clear_40 zf_X2_52 h18.1 h18.2 (Or.inl rfl) (fun _ _ _ _ _ => rfl) rfl rfl (z_nmI (fun I19 e20 => ?_))
  have hv := hv I19 e20
  exact z_return dX2_clear_43 rfl (Nat.le_refl _) (Nat.le_refl _) hv
theorem sp_X2_clear (hP : zPk P) (ht : il t) {K : zI → zL → zP → Prop} (kk : ∀ I', cFr [t, t + 3] I I' → (∀ J M, J t = I' t → J (t + 3) = I' (t + 3) → J 17 6 = nI 0 → cI t J M A0) → K I' L P) : zMv zm_X2_clear d [.ref t] I L P K := by
  obtain ⟨b1, b2, b3, b4, b5, b6⟩ := il_P ht hP
  unfold il at ht
  refine g_X2_clear hP ⟨b1, fun I2 e2 I4 e4 I6 e6 I8 e8 I10 e10 I12 e12 I14 e14 => ⟨t + 3, b4.1, b4.2, fun I19 e19 => qv (kk I19 ?_ (fun J M j0 j3 j6 => ?_))⟩⟩
  · rw [e19, e14, e12, e10, e8, e6, e4, e2]
    exact cFr_c (cFr_c (cFr_c (cFr_c (cFr_c (cFr_c (cFr_c (cFr_c (cFr_rf _ _) (by simp)) (by simp)) (by simp)) (by simp)) (by simp)) (by simp)) (by simp)) (by simp)
  · have g0 : ∀ k, k < 8 → k ≠ 5 → J t k = nI 0 := by
      intro k hk h5
      rw [j0, e19, zuI_ne (by omega), e14]
      have : k = 7 ∨ k = 6 ∨ k = 4 ∨ k = 3 ∨ k = 2 ∨ k = 1 ∨ k = 0 := by omega
      rcases this with rfl | rfl | rfl | rfl | rfl | rfl | rfl
      · rw [zuI_v]; rfl
      · rw [zuI_o (by decide), e12, zuI_v]; rfl
      · rw [zuI_o (by decide), e12, zuI_o (by decide), e10, zuI_v]; rfl
      · rw [zuI_o (by decide), e12, zuI_o (by decide), e10, zuI_o (by decide), e8, zuI_v]; rfl
      · rw [zuI_o (by decide), e12, zuI_o (by decide), e10, zuI_o (by decide), e8, zuI_o (by decide), e6, zuI_v]; rfl
      · rw [zuI_o (by decide), e12, zuI_o (by decide), e10, zuI_o (by decide), e8, zuI_o (by decide), e6, zuI_o (by decide), e4, zuI_v]; rfl
      · rw [zuI_o (by decide), e12, zuI_o (by decide), e10, zuI_o (by decide), e8, zuI_o (by decide), e6, zuI_o (by decide), e4, zuI_o (by decide), e2, zuI_v]; rfl
    have g3 : J (t + 3) 1 = nI 0 := by rw [j3, e19, zuI_v]; rfl
    exact ⟨⟨by decide, g0 0 (by decide) (by decide)⟩, ⟨by decide, g0 1 (by decide) (by decide)⟩, ⟨0, by decide, g0 2 (by decide) (by decide), fun k hk => absurd hk (Nat.not_lt_zero k)⟩, ⟨by decide, g0 3 (by decide) (by decide)⟩, ⟨by decide, g0 4 (by decide) (by decide)⟩, ⟨by decide, g0 6 (by decide) (by decide)⟩, ⟨by decide, g0 7 (by decide) (by decide), fun _ => rfl⟩, fun k hk => absurd hk (Nat.not_lt_zero k), ⟨⟨by decide, j6⟩, g3, by decide, rfl⟩, fun k hk => absurd hk (Nat.not_lt_zero k)⟩
abbrev gw_X2_takesPeople (d : Nat) (Q : zQt) (pc : Nat) (lv : zV) (st : List Value) (I : zI) (L : zL) (P : zP) : Prop := zW zm_X2_takesPeople (zRm d 0 0) 0 0 Q pc lv st I L P 205 0 0
abbrev v_X2_takesPeople (d : Nat) (Q : zQt) (a : Nat) (I : zI) (L : zL) (P : zP) : Prop :=
  (a < 205 ∧ (zsh a).1 = 2) ∧
  ((8 ≤ (I a 0) →
    Q (some (.int 0)) I L P 205
  ) ∧ (¬ 8 ≤ (I a 0) →
    ((¬ (I a 3) = 0 →
      Q (some (.int 0)) I L P 205
    ) ∧ ((I a 3) = 0 →
      ((¬ (I a 6) = 0 →
        Q (some (.int 0)) I L P 205
      ) ∧ ((I a 6) = 0 →
        ((¬ (I a 4) = 0 →
          Q (some (.int 0)) I L P 205
        ) ∧ ((I a 4) = 0 →
          Q (some (.int 1)) I L P 205
        ))
      ))
    ))
  ))
set_option maxRecDepth 20000 in
theorem g_X2_takesPeople {d : Nat} {Q : zQt} {a : Nat} {I : zI} {L : zL} {P : zP} (hP : zPk P) (hv : v_X2_takesPeople d Q a I L P) : zM zm_X2_takesPeople d 0 0 [.ref a] I L P 205 Q := by
  unfold v_X2_takesPeople at hv
  refine zM_of (lv0 := [some (.ref a)]) (by decide +kernel) (Nat.le_of_ble_eq_true rfl) rfl ?_
  refine z_aload_n dX2_takesPeople_0 rfl ?_
  obtain ⟨h1, hv⟩ := hv
  refine z_getI dX2_takesPeople_1 zf_X2_29 h1.1 h1.2 (fun _ _ _ _ _ => rfl) ?_
  refine z_bipush (v := 8) dX2_takesPeople_4 (by decide) ?_
  refine z_icmp_ge (tgt := 34) dX2_takesPeople_6 (by decide) (fun q2 => ?_) (fun q2 => ?_)
  · have hv := hv.1 q2
    refine z_iconst (v := 0) dX2_takesPeople_34 (by decide) ?_
    exact z_ireturn dX2_takesPeople_35 rfl (by decide) (Nat.le_refl _) (Nat.le_refl _) hv
  · have hv := hv.2 q2
    refine z_aload_n dX2_takesPeople_9 rfl ?_
    refine z_getI dX2_takesPeople_10 zf_X2_39 h1.1 h1.2 (fun _ _ _ _ _ => rfl) ?_
    refine z_if_ne (tgt := 34) dX2_takesPeople_13 (by decide) (fun q3 => ?_) (fun q3 => ?_)
    · have hv := hv.1 q3
      refine z_iconst (v := 0) dX2_takesPeople_34 (by decide) ?_
      exact z_ireturn dX2_takesPeople_35 rfl (by decide) (Nat.le_refl _) (Nat.le_refl _) hv
    · have hv := hv.2 q3
      refine z_aload_n dX2_takesPeople_16 rfl ?_
      refine z_getI dX2_takesPeople_17 zf_X2_45 h1.1 h1.2 (fun _ _ _ _ _ => rfl) ?_
      refine z_if_ne (tgt := 34) dX2_takesPeople_20 (by decide) (fun q4 => ?_) (fun q4 => ?_)
      · have hv := hv.1 q4
        refine z_iconst (v := 0) dX2_takesPeople_34 (by decide) ?_
        exact z_ireturn dX2_takesPeople_35 rfl (by decide) (Nat.le_refl _) (Nat.le_refl _) hv
      · have hv := hv.2 q4
        refine z_aload_n dX2_takesPeople_23 rfl ?_
        refine z_getI dX2_takesPeople_24 zf_X2_42 h1.1 h1.2 (fun _ _ _ _ _ => rfl) ?_
        refine z_if_ne (tgt := 34) dX2_takesPeople_27 (by decide) (fun q5 => ?_) (fun q5 => ?_)
        · have hv := hv.1 q5
          refine z_iconst (v := 0) dX2_takesPeople_34 (by decide) ?_
          exact z_ireturn dX2_takesPeople_35 rfl (by decide) (Nat.le_refl _) (Nat.le_refl _) hv
        · have hv := hv.2 q5
          refine z_iconst (v := 1) dX2_takesPeople_30 (by decide) ?_
          refine z_goto (tgt := 35) dX2_takesPeople_31 (by decide) ?_
          exact z_ireturn dX2_takesPeople_35 rfl (by decide) (Nat.le_refl _) (Nat.le_refl _) hv
theorem sp_X2_takesPeople (hP : zPk P) (ht : il t) (h : cI t I L A) {K : Int32 → zI → zL → zP → Prop} (kk : K (bP (¬ aFull A 256)) I L P) : zMi zm_X2_takesPeople d [.ref t] I L P K := by
  obtain ⟨b1, -⟩ := il_P ht hP
  obtain ⟨h0, h1, h2, h3, h4, h5, -⟩ := h
  have ef : aFull A 256 ↔ (A.1 0 = 8 ∨ aBeh A) := Iff.rfl
  have k0 : aFull A 256 → K 0 I L P := fun z => by rw [bP_f (fun y => y z)] at kk; exact kk
  have z3 : I t 3 = 0 ↔ A.1 2 = 0 := by rw [h3.2, nI_zero (by omega)]
  have z6 : I t 6 = 0 ↔ A.1 5 = 0 := by rw [h5.2, nI_zero (by omega)]
  have z4 : I t 4 = 0 ↔ A.1 3 = 0 := by rw [h4.2, nI_zero (by omega)]
  have z0 : 8 ≤ I t 0 ↔ 8 ≤ A.1 0 := by rw [h0.2, show (8 : Int32) = nI 8 from rfl, nI_leI (by decide) (by omega)]
  unfold aBeh at ef
  refine g_X2_takesPeople hP ⟨b1, fun q => qi (k0 (ef.mpr (Or.inl (by rw [z0] at q; omega)))), fun q => ⟨fun q3 => qi (k0 (ef.mpr (Or.inr (Or.inl (by rw [z3] at q3; omega))))), fun q3 => ⟨fun q6 => qi (k0 (ef.mpr (Or.inr (Or.inr (Or.inl (by rw [z6] at q6; omega)))))), fun q6 => ⟨fun q4 => qi (k0 (ef.mpr (Or.inr (Or.inr (Or.inr (by rw [z4] at q4; omega)))))), fun q4 => ?_⟩⟩⟩⟩
  rw [z0] at q
  rw [z3] at q3
  rw [z6] at q6
  rw [z4] at q4
  have : ¬ aFull A 256 := by rw [ef]; omega
  rw [bP_t this] at kk
  exact qi kk
theorem see_or : ∀ np, np < 8 → ∀ s, s < 256 → s.testBit np = true → (s % 2 ^ np) ||| 2 ^ np = s % 2 ^ (np + 1) := by decide +kernel
theorem see_new : ∀ np, np < 8 → (255 - 2 ^ np) % 2 ^ (np + 1) = 2 ^ np - 1 ∧ (2 ^ np - 1) ||| 2 ^ np = 255 % 2 ^ (np + 1) ∧ ∀ j, j < 8 → np + 1 ≤ j → (255 - 2 ^ np).testBit j = true ∧ (255).testBit j = true := by decide +kernel
theorem nI_sub1 {m : Nat} (h : 0 < m) : nI m - 1 = nI (m - 1) := by
  obtain ⟨k, rfl⟩ : ∃ k, m = k + 1 := ⟨m - 1, by omega⟩
  rw [← nI_1, Nat.add_sub_cancel]
  simp
abbrev gw_X2_addPerson (d : Nat) (Q : zQt) (pc : Nat) (lv : zV) (st : List Value) (I : zI) (L : zL) (P : zP) : Prop := zW zm_X2_addPerson (zRm d 0 0) 0 0 Q pc lv st I L P 205 0 0
abbrev v_X2_addPerson_11 (d : Nat) (Q : zQt) (a : Nat) (p1 : Int64) (x3 : Int32) (I : zI) (L : zL) (P : zP) : Prop :=
  (a < 205 ∧ (zsh a).1 = 2) ∧
  (((I a 0) ≤ x3 →
    ∃ b5 : Nat, P a 9 = some b5 ∧
    ∃ n8, (b5 < 205 ∧ zsh b5 = (100, n8)) ∧
    vp_in (I a 0) n8 ∧
    ∀ I11 : zI, I11 = zuI I b5 (I a 0).toNatClampNeg (((1 : Int32) <<< ((I a 0) &&& 31) : Int32) - 1) →
    ∃ b12 : Nat, P a 8 = some b12 ∧
    ∃ n15, (b12 < 205 ∧ zsh b12 = (101, n15)) ∧
    vp_in (I11 a 0) n15 ∧
    ∀ L18 : zL, L18 = zuL L b12 (I11 a 0).toNatClampNeg p1 →
    ∀ I19 : zI, I19 = zuI I11 a 0 ((I11 a 0) + 1) →
    Q none I19 L18 P 205
  ) ∧ (¬ (I a 0) ≤ x3 →
    ∃ b21 : Nat, P a 9 = some b21 ∧
    ∃ n24, (b21 < 205 ∧ zsh b21 = (100, n24)) ∧
    vp_in x3 n24 ∧
    ∀ I27 : zI, I27 = zuI I b21 x3.toNatClampNeg ((I b21 x3.toNatClampNeg) ||| ((1 : Int32) <<< ((I a 0) &&& 31) : Int32) : Int32) →
    gw_X2_addPerson d Q 11 [some (.ref a), some (.long p1), none, some (.int (x3 + 1))] [] I27 L P
  ))
set_option maxRecDepth 20000 in
theorem g_X2_addPerson_11 {d : Nat} {Q : zQt} {a : Nat} {p1 : Int64} {x3 : Int32} {I : zI} {L : zL} {P : zP} (hP : zPk P) (hv : v_X2_addPerson_11 d Q a p1 x3 I L P) : gw_X2_addPerson d Q 11 [some (.ref a), some (.long p1), none, some (.int x3)] [] I L P := by
  unfold v_X2_addPerson_11 at hv
  refine z_iload_n dX2_addPerson_11 rfl ?_
  refine z_aload_n dX2_addPerson_12 rfl ?_
  obtain ⟨h3, hv⟩ := hv
  refine z_getI dX2_addPerson_13 zf_X2_29 h3.1 h3.2 (fun _ _ _ _ _ => rfl) ?_
  refine z_icmp_ge (tgt := 40) dX2_addPerson_16 (by decide) (fun q4 => ?_) (fun q4 => ?_)
  · have hv := hv.1 q4
    refine z_aload_n dX2_addPerson_40 rfl ?_
    obtain ⟨b5, h6, hv⟩ := hv
    refine z_getP dX2_addPerson_41 zf_X2_15 h3.1 h3.2 (fun _ _ _ _ _ => rfl) h6 ?_
    refine z_aload_n dX2_addPerson_44 rfl ?_
    refine z_getI dX2_addPerson_45 zf_X2_29 h3.1 h3.2 (fun _ _ _ _ _ => rfl) ?_
    refine z_iconst (v := 1) dX2_addPerson_48 (by decide) ?_
    refine z_aload_n dX2_addPerson_49 rfl ?_
    refine z_getI dX2_addPerson_50 zf_X2_29 h3.1 h3.2 (fun _ _ _ _ _ => rfl) ?_
    refine z_ishl dX2_addPerson_53 ?_
    refine z_iconst (v := 1) dX2_addPerson_54 (by decide) ?_
    refine z_isub dX2_addPerson_55 ?_
    obtain ⟨n8, h7, hv⟩ := hv
    obtain ⟨h9, hv⟩ := hv
    refine z_iastore dX2_addPerson_56 h7.1 h7.2 h9 (z_nmI (fun I11 e10 => ?_))
    have hv := hv I11 e10
    refine z_aload_n dX2_addPerson_57 rfl ?_
    obtain ⟨b12, h13, hv⟩ := hv
    refine z_getP dX2_addPerson_58 zf_X2_11 h3.1 h3.2 (fun _ _ _ _ _ => rfl) h13 ?_
    refine z_aload_n dX2_addPerson_61 rfl ?_
    refine z_getI dX2_addPerson_62 zf_X2_29 h3.1 h3.2 (fun _ _ _ _ _ => rfl) ?_
    refine z_lload_n dX2_addPerson_65 rfl ?_
    obtain ⟨n15, h14, hv⟩ := hv
    obtain ⟨h16, hv⟩ := hv
    refine z_lastore dX2_addPerson_66 h14.1 h14.2 h16 (z_nmL (fun L18 e17 => ?_))
    have hv := hv L18 e17
    refine z_aload_n dX2_addPerson_67 rfl ?_
    refine z_dup dX2_addPerson_68 rfl ?_
    refine z_getI dX2_addPerson_69 zf_X2_29 h3.1 h3.2 (fun _ _ _ _ _ => rfl) ?_
    refine z_iconst (v := 1) dX2_addPerson_72 (by decide) ?_
    refine z_iadd dX2_addPerson_73 ?_
    refine z_putI dX2_addPerson_74 zf_X2_29 h3.1 h3.2 (Or.inl rfl) (fun _ _ _ _ _ => rfl) rfl rfl (z_nmI (fun I19 e20 => ?_))
    have hv := hv I19 e20
    exact z_return dX2_addPerson_77 rfl (Nat.le_refl _) (Nat.le_refl _) hv
  · have hv := hv.2 q4
    refine z_aload_n dX2_addPerson_19 rfl ?_
    obtain ⟨b21, h22, hv⟩ := hv
    refine z_getP dX2_addPerson_20 zf_X2_15 h3.1 h3.2 (fun _ _ _ _ _ => rfl) h22 ?_
    refine z_iload_n dX2_addPerson_23 rfl ?_
    refine z_dup2 dX2_addPerson_24 rfl rfl ?_
    obtain ⟨n24, h23, hv⟩ := hv
    obtain ⟨h25, hv⟩ := hv
    refine z_iaload dX2_addPerson_25 h23.1 h23.2 h25 ?_
    refine z_iconst (v := 1) dX2_addPerson_26 (by decide) ?_
    refine z_aload_n dX2_addPerson_27 rfl ?_
    refine z_getI dX2_addPerson_28 zf_X2_29 h3.1 h3.2 (fun _ _ _ _ _ => rfl) ?_
    refine z_ishl dX2_addPerson_31 ?_
    refine z_ior dX2_addPerson_32 ?_
    refine z_iastore dX2_addPerson_33 h23.1 h23.2 h25 (z_nmI (fun I27 e26 => ?_))
    have hv := hv I27 e26
    refine z_iinc (v2 := x3 + 1) (lv2 := [some (.ref a), some (.long p1), none, some (.int (x3 + 1))]) dX2_addPerson_34 rfl (by rfl) (by decide) rfl rfl ?_
    refine z_goto (tgt := 11) dX2_addPerson_37 (by decide) ?_
    exact hv
abbrev v_X2_addPerson (d : Nat) (Q : zQt) (a : Nat) (p1 : Int64) (I : zI) (L : zL) (P : zP) : Prop :=
  (a < 205 ∧ (zsh a).1 = 2) ∧
  ((8 ≤ (I a 0) →
    Q none I L P 205
  ) ∧ (¬ 8 ≤ (I a 0) →
    gw_X2_addPerson d Q 11 [some (.ref a), some (.long p1), none, some (.int 0)] [] I L P
  ))
set_option maxRecDepth 20000 in
theorem g_X2_addPerson {d : Nat} {Q : zQt} {a : Nat} {p1 : Int64} {I : zI} {L : zL} {P : zP} (hP : zPk P) (hv : v_X2_addPerson d Q a p1 I L P) : zM zm_X2_addPerson d 0 0 [.ref a, .long p1] I L P 205 Q := by
  unfold v_X2_addPerson at hv
  refine zM_of (lv0 := [some (.ref a), some (.long p1), none, none]) (by decide +kernel) (Nat.le_of_ble_eq_true rfl) rfl ?_
  refine z_aload_n dX2_addPerson_0 rfl ?_
  obtain ⟨h1, hv⟩ := hv
  refine z_getI dX2_addPerson_1 zf_X2_29 h1.1 h1.2 (fun _ _ _ _ _ => rfl) ?_
  refine z_bipush (v := 8) dX2_addPerson_4 (by decide) ?_
  refine z_icmp_ge (tgt := 77) dX2_addPerson_6 (by decide) (fun q2 => ?_) (fun q2 => ?_)
  · have hv := hv.1 q2
    exact z_return dX2_addPerson_77 rfl (Nat.le_refl _) (Nat.le_refl _) hv
  · have hv := hv.2 q2
    refine z_iconst (v := 0) dX2_addPerson_9 (by decide) ?_
    refine z_istore_n (lv2 := [some (.ref a), some (.long p1), none, some (.int 0)]) dX2_addPerson_10 (by decide) rfl rfl ?_
    exact hv
theorem sp_X2_addPerson {v : Int64} (hP : zPk P) (ht : il t) (h : cI t I L A) (h8 : A.1 0 < 8) (hb : A.1 2 = 0) (hns : A.1 3 = 0) {K : zI → zL → zP → Prop}
    (kk : ∀ I' L', cI t I' L' (aAdd A v (A.1 1) (255 - 2 ^ A.1 0) 0) → cFr [t, t + 2] I I' → (∀ x, x ≠ t + 1 → L' x = L x) → K I' L' P) : zMv zm_X2_addPerson d [.ref t, .long v] I L P K := by
  obtain ⟨b1, b2, b3, -⟩ := il_P ht hP
  obtain ⟨h0, h1, h2, h3, h4, h5, h6, hk, hc, hs⟩ := h
  have hil := ht
  unfold il at hil
  have key : ∀ m i J, i + m = A.1 0 → cFr [t + 2] I J → (∀ k, k < i → J (t + 2) k = nI (A.1 (10 + k) % 2 ^ (A.1 0 + 1))) → (∀ k, i ≤ k → J (t + 2) k = I (t + 2) k) → gw_X2_addPerson d (fun v I' L' P' nx' => nx' = 205 ∧ v = none ∧ K I' L' P') 11 [some (.ref t), some (.long v), none, some (.int (nI i))] [] J L P := by
    intro m
    induction m with
    | zero =>
      intro i J hi hf hlo hhi
      have et : J t = I t := hf t (by simp only [List.mem_cons, List.not_mem_nil, or_false]; omega)
      have ei : i = A.1 0 := by omega
      subst ei
      refine g_X2_addPerson_11 hP ⟨b1, fun _ => ⟨t + 2, b3.1, 8, b3.2, ?_⟩, fun q => absurd (by rw [et, h0.2]; exact nI_le (Nat.le_refl _) (by omega)) q⟩
      rw [et, h0.2, nI_cl (by omega)]
      refine ⟨nx_in h8 (by decide), fun I11 e11 => ⟨t + 1, b2.1, 8, b2.2, ?_⟩⟩
      have e0 : I11 t 0 = nI (A.1 0) := by rw [e11, zuI_ne (by omega), et]; exact h0.2
      rw [e0, nI_cl (by omega)]
      refine ⟨nx_in h8 (by decide), fun L18 e18 I19 e19 => qv ?_⟩
      rw [show (1 : Int32) = nI 1 from rfl, nx_shl (by omega) (by rw [Nat.one_mul]; exact Nat.lt_of_lt_of_le (Nat.pow_lt_pow_right (by decide) h8) (by decide)), Nat.one_mul, show nI 1 = (1 : Int32) from rfl, nI_sub1 (Nat.two_pow_pos _)] at e11
      rw [nI_1] at e19
      have f : cFr [t, t + 2] I I19 := by rw [e19, e11]; exact cFr_c (cFr_c (cFr_wk hf (by simp)) (by simp)) (by simp)
      have t0 : I19 t 0 = nI (A.1 0 + 1) := by rw [e19, zuI_v]
      have tk : ∀ k, k ≠ 0 → I19 t k = I t k := fun k hk => by rw [e19, zuI_o hk, e11, zuI_ne (by omega), et]
      have s2 : ∀ k, k < A.1 0 + 1 → I19 (t + 2) k = if k = A.1 0 then nI (2 ^ A.1 0 - 1) else nI (A.1 (10 + k) % 2 ^ (A.1 0 + 1)) := by
        intro k hk
        rw [e19, zuI_ne (by omega), e11]
        by_cases c : k = A.1 0
        · rw [if_pos c, c, zuI_v]
        · rw [if_neg c, zuI_o c]; exact hlo k (by omega)
      have n2 : ∀ k, L18 (t + 1) k = if k = A.1 0 then v else L (t + 1) k := by
        intro k
        rw [e18]
        by_cases c : k = A.1 0
        · rw [if_pos c, c, zuL_v]
        · rw [if_neg c, zuL_o c]
      have oL : ∀ x, x ≠ t + 1 → L18 x = L x := fun x hx => by rw [e18, zuL_ne hx]
      clear e18 e19 e11 e0
      have p2 : (2 : Nat) ^ (A.1 0 + 1) = 2 ^ A.1 0 * 2 := Nat.pow_succ ..
      have o : ∀ j, 2 ≤ j → j < 10 → (aAdd A v (A.1 1) (255 - 2 ^ A.1 0) 0).1 j = A.1 j := fun j a b => aAdd_o h8 (by omega) (by omega) (by omega) (by omega)
      have a1 := aAdd_1 (A := A) (v := v) (tw := A.1 1) (s := 255 - 2 ^ A.1 0) (st := 0) h8
      have a0 := aAdd_0 (A := A) (v := v) (tw := A.1 1) (s := 255 - 2 ^ A.1 0) (st := 0) h8
      have as := aAdd_s (A := A) (v := v) (tw := A.1 1) (s := 255 - 2 ^ A.1 0) (st := 0) h8
      have at' := aAdd_t (A := A) (v := v) (tw := A.1 1) (s := 255 - 2 ^ A.1 0) (st := 0) h8
      have an := aAdd_n (A := A) (v := v) (tw := A.1 1) (s := 255 - 2 ^ A.1 0) (st := 0)
      have ao : ∀ j, j ≠ 0 → j ≠ 1 → j ≠ 10 + A.1 0 → j ≠ 20 + A.1 0 → (aAdd A v (A.1 1) (255 - 2 ^ A.1 0) 0).1 j = A.1 j := fun j a b c d => aAdd_o h8 a b c d
      have o3 := o 3 (by decide) (by decide)
      refine kk I19 L18 ?_ f oL
      unfold cI
      rw [a0, a1, o 2 (by decide) (by decide), o3, o 4 (by decide) (by decide), o 5 (by decide) (by decide), o 6 (by decide) (by decide)]
      obtain ⟨s, hs1, hs2, hs3⟩ := h2
      refine ⟨⟨by omega, t0⟩, ⟨by omega, by rw [tk 1 (by decide)]; exact h1.2⟩, ⟨s, by omega, by rw [tk 2 (by decide)]; exact hs2, fun k hk => ?_⟩, ⟨h3.1, by rw [tk 3 (by decide)]; exact h3.2⟩, ⟨h4.1, by rw [tk 4 (by decide)]; exact h4.2⟩, ⟨h5.1, by rw [tk 6 (by decide)]; exact h5.2⟩, ⟨h6.1, by rw [tk 7 (by decide)]; exact h6.2.1, h6.2.2⟩, fun k hk' => ?_, ⟨⟨hc.1.1, by rw [f 17 (by simp only [List.mem_cons, List.not_mem_nil, or_false]; omega)]; exact hc.1.2⟩, by rw [f (t + 3) (by simp only [List.mem_cons, List.not_mem_nil, or_false]; omega), ao _ (by omega) (by omega) (by omega) (by omega)]; exact hc.2.1, by rw [ao _ (by omega) (by omega) (by omega) (by omega)]; exact hc.2.2.1, by rw [ao _ (by omega) (by omega) (by omega) (by omega)]; exact hc.2.2.2⟩, fun i hi => absurd hi (by omega)⟩
      · by_cases c : k = A.1 0
        · subst c
          rw [at', Nat.testBit_lt_two_pow hs1]
          simp
        · rw [ao _ (by omega) (by omega) (by omega) (by omega)]; exact hs3 k (by omega)
      · rw [an k, n2 k, s2 k hk']
        obtain ⟨z1, -, z3⟩ := see_new _ h8
        by_cases c : k = A.1 0
        · rw [if_pos c, if_pos c, if_pos c, c, as, z1]
          exact ⟨by omega, rfl, rfl, fun _ j hj1 hj2 => (z3 j hj2 hj1).1⟩
        · obtain ⟨y1, y2, y3, y4⟩ := hk k (by omega)
          rw [if_neg c, if_neg c, if_neg c, ao _ (by omega) (by omega) (by omega) (by omega)]
          exact ⟨y1, y2, rfl, fun z j hj1 hj2 => y4 z j (by omega) hj2⟩
    | succ m ih =>
      intro i J hi hf hlo hhi
      have et : J t = I t := hf t (by simp only [List.mem_cons, List.not_mem_nil, or_false]; omega)
      refine g_X2_addPerson_11 hP ⟨b1, fun q => absurd q (by rw [et, h0.2]; exact nI_ge (by omega) (by omega)), fun _ => ⟨t + 2, b3.1, 8, b3.2, nx_in (by omega) (by decide), fun I27 e27 => ?_⟩⟩
      obtain ⟨y1, y2, y3, y4⟩ := hk i (by omega)
      rw [nI_cl (by omega), et, h0.2, hhi i (Nat.le_refl _), y3, nx_set (by omega), see_or _ h8 _ y1 (y4 hb _ (Nat.le_refl _) h8)] at e27
      rw [nI_1]
      refine ih (i + 1) I27 (by omega) (by rw [e27]; exact cFr_c hf (by simp)) (fun k hk => ?_) (fun k hk => by rw [e27, zuI_o (by omega)]; exact hhi k (by omega))
      rw [e27]
      by_cases c : k = i
      · rw [c, zuI_v]
      · rw [zuI_o c]; exact hlo k (by omega)
  refine g_X2_addPerson hP ⟨b1, fun q => absurd q (by rw [h0.2]; exact nI_ge h8 (by decide)), fun _ => ?_⟩
  exact key (A.1 0) 0 I (by omega) (cFr_rf _ _) (fun k hk => absurd hk (Nat.not_lt_zero k)) (fun _ _ => rfl)
end CI
