/-! ===== an island as it is read ===== -/
/-- numbers: 0 people, 1 true world, 2 blinds, 3 sayings, 4 units, 5 law told, 6 own law, 10 + k whom k sees, 20 + k whether k stays, 30 + i where the saying i starts; names; codes -/
abbrev Ai := (Nat → Nat) × (Nat → Int64) × (Nat → Cd)
def aU (A : Ai) (k v : Nat) : Ai := (fun j => if j = k then v else A.1 j, A.2.1, A.2.2)
def aWn (A : Ai) (k : Nat) (v : Int64) : Ai := (A.1, fun j => if j = k then v else A.2.1 j, A.2.2)
def aCn (A : Ai) (k : Nat) (c : Cd) : Ai := (A.1, A.2.1, fun j => if j = k then c else A.2.2 j)
def A0 : Ai := (fun _ => 0, fun _ => 0, fun _ => [])
theorem aU_v (A : Ai) (k v : Nat) : (aU A k v).1 k = v := if_pos rfl
theorem aU_o {A : Ai} {k v j : Nat} (h : j ≠ k) : (aU A k v).1 j = A.1 j := if_neg h
/-- the places of the bank rb -/
def inR (rb a j : Nat) : Prop := (a ∈ [163, 164, 165, 166, 167, 171, 172] ∧ j = rb) ∨ (a ∈ [168, 173] ∧ 8 * rb ≤ j ∧ j < 8 * rb + 8) ∨ (a ∈ [169, 170] ∧ 6 * rb ≤ j ∧ j < 6 * rb + 6) ∨ (a ∈ [175, 176] ∧ 700 * rb ≤ j ∧ j < 700 * rb + 700) ∨ a ∈ [162, 177, 178, 179]
abbrev iL : List Nat := [4, 5, 6, 7, 8, 9, 29, 30, 31, 32, 33, 34]
/-- outside of the bank rb all is as it was -/
def iFr (rb : Nat) (I0 : zI) (L0 : zL) (I : zI) (L : zL) : Prop := (∀ a j, a ≠ 160 → ¬ inR rb a j → I a j = I0 a j) ∧ (∀ s, s ∉ iL → I 160 s = I0 160 s) ∧ ∀ a j, ¬ (a = 160 ∧ j = 10) → ¬ (a = 174 ∧ 8 * rb ≤ j ∧ j < 8 * rb + 8) → L a j = L0 a j
theorem iFr_rf (rb : Nat) (I : zI) (L : zL) : iFr rb I L I L := ⟨fun _ _ _ _ => rfl, fun _ _ => rfl, fun _ _ _ _ => rfl⟩
theorem iFr_tr {rb : Nat} {I0 I1 I2 : zI} {L0 L1 L2 : zL} (h : iFr rb I0 L0 I1 L1) (h' : iFr rb I1 L1 I2 L2) : iFr rb I0 L0 I2 L2 :=
  ⟨fun a j p q => (h'.1 a j p q).trans (h.1 a j p q), fun s p => (h'.2.1 s p).trans (h.2.1 s p), fun a j p q => (h'.2.2 a j p q).trans (h.2.2 a j p q)⟩
theorem iFr_c {rb c k : Nat} {v : Int32} {I0 I : zI} {L0 L : zL} (h : iFr rb I0 L0 I L) (hc : inR rb c k) (h0 : c ≠ 160) : iFr rb I0 L0 (zuI I c k v) L := by
  refine ⟨fun a j p q => ?_, fun s p => ?_, h.2.2⟩
  · by_cases e : a = c
    · subst e
      rw [zuI_o (fun z => q (by rw [z]; exact hc))]; exact h.1 a j p q
    · rw [zuI_ne e]; exact h.1 a j p q
  · rw [zuI_ne (Ne.symm h0)]; exact h.2.1 s p
theorem iFr_s {rb k : Nat} {v : Int32} {I0 I : zI} {L0 L : zL} (h : iFr rb I0 L0 I L) (hk : k ∈ iL) : iFr rb I0 L0 (zuI I 160 k v) L :=
  ⟨fun a j p q => by rw [zuI_ne p]; exact h.1 a j p q, fun s p => by rw [zuI_o (fun z => p (by rw [z]; exact hk))]; exact h.2.1 s p, h.2.2⟩
theorem iFr_go {rb : Nat} {I0 I I' : zI} {L0 L L' : zL} (h : iFr rb I0 L0 I L) (hf : zFr [] gS I I') (hL : zLn L L') : iFr rb I0 L0 I' L' :=
  ⟨fun a j p q => by rw [hf.1 a (by simp) p]; exact h.1 a j p q, fun s p => by rw [hf.2 s (fun z => p ((by decide : ∀ x ∈ gS, x ∈ iL) s z))]; exact h.2.1 s p, fun a j p q => by rw [hL a j p]; exact h.2.2 a j p q⟩
theorem iFr_ft {rb k q : Nat} {I0 I : zI} {L0 L : zL} (h : iFr rb I0 L0 I L) : iFr rb I0 L0 (pFt I k q) L := iFr_s (iFr_s h (by decide)) (by decide)
/-- the bank rb holds the island A -/
def iM (rb : Nat) (I : zI) (L : zL) (A : Ai) : Prop :=
  (I 160 29 = nI rb ∧ rb < 2) ∧ (A.1 0 ≤ 8 ∧ I 163 rb = nI (A.1 0)) ∧ (A.1 1 < 2 ^ A.1 0 ∧ I 167 rb = nI (A.1 1)) ∧ (A.1 2 ≤ 30 ∧ I 164 rb = nI (A.1 2)) ∧ (A.1 3 ≤ 6 ∧ I 165 rb = nI (A.1 3)) ∧ (A.1 4 ≤ 60 ∧ I 166 rb = nI (A.1 4)) ∧ (A.1 5 ≤ 1 ∧ I 172 rb = nI (A.1 5)) ∧ (A.1 6 ≤ 1 ∧ I 171 rb = nI (A.1 6)) ∧
  (∀ k, k < A.1 0 → A.1 (10 + k) < 256 ∧ I 168 (8 * rb + k) = nI (A.1 (10 + k)) ∧ A.1 (20 + k) ≤ 1 ∧ I 173 (8 * rb + k) = nI (A.1 (20 + k)) ∧ L 174 (8 * rb + k) = A.2.1 k) ∧
  (I 160 30 = nI rb ∧ I 160 31 = nI 60 ∧ I 160 32 = nI (700 * rb + A.1 (30 + A.1 3)) ∧ A.1 (30 + A.1 3) ≤ 9 * A.1 4) ∧
  ∀ i, i < A.1 3 → A.1 (30 + (i + 1)) = A.1 (30 + i) + (A.2.2 i).length ∧ A.1 (30 + (i + 1)) ≤ A.1 (30 + A.1 3) ∧ I 169 (6 * rb + i) = nI (700 * rb + A.1 (30 + i)) ∧ I 170 (6 * rb + i) = nI (700 * rb + A.1 (30 + (i + 1))) ∧ vCd I (700 * rb + A.1 (30 + i)) (A.2.2 i).length = cMp (A.2.2 i) ∧ ∃ u, u ≤ 60 ∧ cQ (A.1 0) 0 0 u (A.2.2 i)
abbrev gw_X12_clearBank (d : Nat) (Q : zQt) (pc : Nat) (lv : zV) (st : List Value) (I : zI) (L : zL) (P : zP) : Prop := zW zm_X12_clearBank (zRm d 0 0) 0 0 Q pc lv st I L P 205 0 0
abbrev v_X12_clearBank (d : Nat) (Q : zQt)  (I : zI) (L : zL) (P : zP) : Prop :=
  vp_in (I 160 29) 2 ∧
  ∀ I3 : zI, I3 = zuI I 163 (I 160 29).toNatClampNeg 0 →
  vp_in (I3 160 29) 2 ∧
  ∀ I6 : zI, I6 = zuI I3 164 (I3 160 29).toNatClampNeg 0 →
  vp_in (I6 160 29) 2 ∧
  ∀ I9 : zI, I9 = zuI I6 165 (I6 160 29).toNatClampNeg 0 →
  vp_in (I9 160 29) 3 ∧
  ∀ I12 : zI, I12 = zuI I9 166 (I9 160 29).toNatClampNeg 0 →
  vp_in (I12 160 29) 2 ∧
  ∀ I15 : zI, I15 = zuI I12 167 (I12 160 29).toNatClampNeg 0 →
  vp_in (I15 160 29) 2 ∧
  ∀ I18 : zI, I18 = zuI I15 171 (I15 160 29).toNatClampNeg 0 →
  vp_in (I18 160 29) 2 ∧
  ∀ I21 : zI, I21 = zuI I18 172 (I18 160 29).toNatClampNeg 0 →
  ∀ I22 : zI, I22 = zuI I21 160 32 ((700 : Int32) * (I21 160 29)) →
  ∀ I24 : zI, I24 = zuI I22 160 30 (I22 160 29) →
  ∀ I26 : zI, I26 = zuI I24 160 31 60 →
  Q none I26 L P 205
set_option maxRecDepth 20000 in
theorem g_X12_clearBank {d : Nat} {Q : zQt}  {I : zI} {L : zL} {P : zP} (hP : zPk P) (hv : v_X12_clearBank d Q  I L P) : zM zm_X12_clearBank d 0 0 [.ref 160] I L P 205 Q := by
  unfold v_X12_clearBank at hv
  refine zM_of (lv0 := [some (.ref 160)]) (by decide +kernel) (Nat.le_of_ble_eq_true rfl) rfl ?_
  refine z_aload_n dX12_clearBank_0 rfl ?_
  refine z_getP dX12_clearBank_1 zf_X12_20 zn_160 zo_160 (fun _ _ _ _ _ => rfl) (hP 160 11 163 zp_160_11) ?_
  refine z_aload_n dX12_clearBank_4 rfl ?_
  refine z_getI dX12_clearBank_5 zf_X12_243 zn_160 zo_160 (fun _ _ _ _ _ => rfl) ?_
  refine z_iconst (v := 0) dX12_clearBank_8 (by decide) ?_
  obtain ⟨h1, hv⟩ := hv
  refine z_iastore dX12_clearBank_9 zn_163 zh_163 h1 (z_nmI (fun I3 e2 => ?_))
  have hv := hv I3 e2
  refine z_aload_n dX12_clearBank_10 rfl ?_
  refine z_getP dX12_clearBank_11 zf_X12_24 zn_160 zo_160 (fun _ _ _ _ _ => rfl) (hP 160 12 164 zp_160_12) ?_
  refine z_aload_n dX12_clearBank_14 rfl ?_
  refine z_getI dX12_clearBank_15 zf_X12_243 zn_160 zo_160 (fun _ _ _ _ _ => rfl) ?_
  refine z_iconst (v := 0) dX12_clearBank_18 (by decide) ?_
  obtain ⟨h4, hv⟩ := hv
  refine z_iastore dX12_clearBank_19 zn_164 zh_164 h4 (z_nmI (fun I6 e5 => ?_))
  have hv := hv I6 e5
  refine z_aload_n dX12_clearBank_20 rfl ?_
  refine z_getP dX12_clearBank_21 zf_X12_27 zn_160 zo_160 (fun _ _ _ _ _ => rfl) (hP 160 13 165 zp_160_13) ?_
  refine z_aload_n dX12_clearBank_24 rfl ?_
  refine z_getI dX12_clearBank_25 zf_X12_243 zn_160 zo_160 (fun _ _ _ _ _ => rfl) ?_
  refine z_iconst (v := 0) dX12_clearBank_28 (by decide) ?_
  obtain ⟨h7, hv⟩ := hv
  refine z_iastore dX12_clearBank_29 zn_165 zh_165 h7 (z_nmI (fun I9 e8 => ?_))
  have hv := hv I9 e8
  refine z_aload_n dX12_clearBank_30 rfl ?_
  refine z_getP dX12_clearBank_31 zf_X12_30 zn_160 zo_160 (fun _ _ _ _ _ => rfl) (hP 160 14 166 zp_160_14) ?_
  refine z_aload_n dX12_clearBank_34 rfl ?_
  refine z_getI dX12_clearBank_35 zf_X12_243 zn_160 zo_160 (fun _ _ _ _ _ => rfl) ?_
  refine z_iconst (v := 0) dX12_clearBank_38 (by decide) ?_
  obtain ⟨h10, hv⟩ := hv
  refine z_iastore dX12_clearBank_39 zn_166 zh_166 h10 (z_nmI (fun I12 e11 => ?_))
  have hv := hv I12 e11
  refine z_aload_n dX12_clearBank_40 rfl ?_
  refine z_getP dX12_clearBank_41 zf_X12_33 zn_160 zo_160 (fun _ _ _ _ _ => rfl) (hP 160 15 167 zp_160_15) ?_
  refine z_aload_n dX12_clearBank_44 rfl ?_
  refine z_getI dX12_clearBank_45 zf_X12_243 zn_160 zo_160 (fun _ _ _ _ _ => rfl) ?_
  refine z_iconst (v := 0) dX12_clearBank_48 (by decide) ?_
  obtain ⟨h13, hv⟩ := hv
  refine z_iastore dX12_clearBank_49 zn_167 zh_167 h13 (z_nmI (fun I15 e14 => ?_))
  have hv := hv I15 e14
  refine z_aload_n dX12_clearBank_50 rfl ?_
  refine z_getP dX12_clearBank_51 zf_X12_45 zn_160 zo_160 (fun _ _ _ _ _ => rfl) (hP 160 19 171 zp_160_19) ?_
  refine z_aload_n dX12_clearBank_54 rfl ?_
  refine z_getI dX12_clearBank_55 zf_X12_243 zn_160 zo_160 (fun _ _ _ _ _ => rfl) ?_
  refine z_iconst (v := 0) dX12_clearBank_58 (by decide) ?_
  obtain ⟨h16, hv⟩ := hv
  refine z_zastore (w := 0) dX12_clearBank_59 zn_171 zh_171 h16 (by decide) (z_nmI (fun I18 e17 => ?_))
  have hv := hv I18 e17
  refine z_aload_n dX12_clearBank_60 rfl ?_
  refine z_getP dX12_clearBank_61 zf_X12_49 zn_160 zo_160 (fun _ _ _ _ _ => rfl) (hP 160 20 172 zp_160_20) ?_
  refine z_aload_n dX12_clearBank_64 rfl ?_
  refine z_getI dX12_clearBank_65 zf_X12_243 zn_160 zo_160 (fun _ _ _ _ _ => rfl) ?_
  refine z_iconst (v := 0) dX12_clearBank_68 (by decide) ?_
  obtain ⟨h19, hv⟩ := hv
  refine z_zastore (w := 0) dX12_clearBank_69 zn_172 zh_172 h19 (by decide) (z_nmI (fun I21 e20 => ?_))
  have hv := hv I21 e20
  refine z_aload_n dX12_clearBank_70 rfl ?_
  refine z_sipush (v := 700) dX12_clearBank_71 (by decide) ?_
  refine z_aload_n dX12_clearBank_74 rfl ?_
  refine z_getI dX12_clearBank_75 zf_X12_243 zn_160 zo_160 (fun _ _ _ _ _ => rfl) ?_
  refine z_imul dX12_clearBank_78 ?_
  refine z_putI dX12_clearBank_79 zf_X12_246 zn_160 zo_160 (Or.inl rfl) (fun _ _ _ _ _ => rfl) rfl rfl (z_nmI (fun I22 e23 => ?_))
  have hv := hv I22 e23
  refine z_aload_n dX12_clearBank_82 rfl ?_
  refine z_aload_n dX12_clearBank_83 rfl ?_
  refine z_getI dX12_clearBank_84 zf_X12_243 zn_160 zo_160 (fun _ _ _ _ _ => rfl) ?_
  refine z_putI dX12_clearBank_87 zf_X12_249 zn_160 zo_160 (Or.inl rfl) (fun _ _ _ _ _ => rfl) rfl rfl (z_nmI (fun I24 e25 => ?_))
  have hv := hv I24 e25
  refine z_aload_n dX12_clearBank_90 rfl ?_
  refine z_bipush (v := 60) dX12_clearBank_91 (by decide) ?_
  refine z_putI dX12_clearBank_93 zf_X12_252 zn_160 zo_160 (Or.inl rfl) (fun _ _ _ _ _ => rfl) rfl rfl (z_nmI (fun I26 e27 => ?_))
  have hv := hv I26 e27
  exact z_return dX12_clearBank_96 rfl (Nat.le_refl _) (Nat.le_refl _) hv
theorem sp_X12_clearBank {d rb : Nat} {I : zI} {L : zL} {P : zP} (hP : zPk P) (h29 : I 160 29 = nI rb) (hr : rb < 2) {K : zI → zL → zP → Prop}
    (kk : ∀ I', iM rb I' L A0 → iFr rb I L I' L → zFr [163, 164, 165, 166, 167, 171, 172] [30, 31, 32] I I' → K I' L P) : zMv zm_X12_clearBank d [.ref 160] I L P K := by
  have cr : (nI rb).toNatClampNeg = rb := nI_cl (by omega)
  have i2 : vp_in (nI rb) 2 := nx_in hr (by decide)
  have i3 : vp_in (nI rb) 3 := nx_in (by omega) (by decide)
  refine g_X12_clearBank hP ?_
  unfold v_X12_clearBank
  rw [h29, cr]
  refine ⟨i2, fun I1 e1 => ?_⟩
  have h1 : I1 160 29 = nI rb := by rw [e1, zuI_ne (by decide)]; exact h29
  rw [h1, cr]
  refine ⟨i2, fun I2 e2 => ?_⟩
  have h2 : I2 160 29 = nI rb := by rw [e2, zuI_ne (by decide)]; exact h1
  rw [h2, cr]
  refine ⟨i2, fun I3 e3 => ?_⟩
  have h3 : I3 160 29 = nI rb := by rw [e3, zuI_ne (by decide)]; exact h2
  rw [h3, cr]
  refine ⟨i3, fun I4 e4 => ?_⟩
  have h4 : I4 160 29 = nI rb := by rw [e4, zuI_ne (by decide)]; exact h3
  rw [h4, cr]
  refine ⟨i2, fun I5 e5 => ?_⟩
  have h5 : I5 160 29 = nI rb := by rw [e5, zuI_ne (by decide)]; exact h4
  rw [h5, cr]
  refine ⟨i2, fun I6 e6 => ?_⟩
  have h6 : I6 160 29 = nI rb := by rw [e6, zuI_ne (by decide)]; exact h5
  rw [h6, cr]
  refine ⟨i2, fun I7 e7 I8 e8 I9 e9 I10 e10 => qv ?_⟩
  have h7 : I7 160 29 = nI rb := by rw [e7, zuI_ne (by decide)]; exact h6
  rw [h7, show (700 : Int32) = nI 700 from rfl, pk_mul] at e8
  have h8 : I8 160 29 = nI rb := by rw [e8, zuI_o (by decide)]; exact h7
  rw [h8] at e9
  have f : zFr [163, 164, 165, 166, 167, 171, 172] [30, 31, 32] I I10 := by
    rw [e10, e9, e8, e7, e6, e5, e4, e3, e2, e1]
    exact zFr_s (zFr_s (zFr_s (zFr_c (zFr_c (zFr_c (zFr_c (zFr_c (zFr_c (zFr_c (zFr_rf _ _ _) (by decide) (by decide)) (by decide) (by decide)) (by decide) (by decide)) (by decide) (by decide)) (by decide) (by decide)) (by decide) (by decide)) (by decide) (by decide)) (by decide)) (by decide)) (by decide)
  have r : iFr rb I L I10 L := by
    rw [e10, e9, e8, e7, e6, e5, e4, e3, e2, e1]
    exact iFr_s (iFr_s (iFr_s (iFr_c (iFr_c (iFr_c (iFr_c (iFr_c (iFr_c (iFr_c (iFr_rf _ _ _) (Or.inl ⟨by decide, rfl⟩) (by decide)) (Or.inl ⟨by decide, rfl⟩) (by decide)) (Or.inl ⟨by decide, rfl⟩) (by decide)) (Or.inl ⟨by decide, rfl⟩) (by decide)) (Or.inl ⟨by decide, rfl⟩) (by decide)) (Or.inl ⟨by decide, rfl⟩) (by decide)) (Or.inl ⟨by decide, rfl⟩) (by decide)) (by decide)) (by decide)) (by decide)
  have s163 : I10 163 rb = nI 0 := by rw [e10, zuI_ne (by decide), e9, zuI_ne (by decide), e8, zuI_ne (by decide), e7, zuI_ne (by decide), e6, zuI_ne (by decide), e5, zuI_ne (by decide), e4, zuI_ne (by decide), e3, zuI_ne (by decide), e2, zuI_ne (by decide), e1, zuI_v]; rfl
  have s164 : I10 164 rb = nI 0 := by rw [e10, zuI_ne (by decide), e9, zuI_ne (by decide), e8, zuI_ne (by decide), e7, zuI_ne (by decide), e6, zuI_ne (by decide), e5, zuI_ne (by decide), e4, zuI_ne (by decide), e3, zuI_ne (by decide), e2, zuI_v]; rfl
  have s165 : I10 165 rb = nI 0 := by rw [e10, zuI_ne (by decide), e9, zuI_ne (by decide), e8, zuI_ne (by decide), e7, zuI_ne (by decide), e6, zuI_ne (by decide), e5, zuI_ne (by decide), e4, zuI_ne (by decide), e3, zuI_v]; rfl
  have s166 : I10 166 rb = nI 0 := by rw [e10, zuI_ne (by decide), e9, zuI_ne (by decide), e8, zuI_ne (by decide), e7, zuI_ne (by decide), e6, zuI_ne (by decide), e5, zuI_ne (by decide), e4, zuI_v]; rfl
  have s167 : I10 167 rb = nI 0 := by rw [e10, zuI_ne (by decide), e9, zuI_ne (by decide), e8, zuI_ne (by decide), e7, zuI_ne (by decide), e6, zuI_ne (by decide), e5, zuI_v]; rfl
  have s171 : I10 171 rb = nI 0 := by rw [e10, zuI_ne (by decide), e9, zuI_ne (by decide), e8, zuI_ne (by decide), e7, zuI_ne (by decide), e6, zuI_v]; rfl
  have s172 : I10 172 rb = nI 0 := by rw [e10, zuI_ne (by decide), e9, zuI_ne (by decide), e8, zuI_ne (by decide), e7, zuI_v]; rfl
  have s29 : I10 160 29 = nI rb := by rw [e10, zuI_o (by decide), e9, zuI_o (by decide)]; exact h8
  have s30 : I10 160 30 = nI rb := by rw [e10, zuI_o (by decide), e9, zuI_v]
  have s31 : I10 160 31 = nI 60 := by rw [e10, zuI_v]; rfl
  have s32 : I10 160 32 = nI (700 * rb + 0) := by rw [e10, zuI_o (by decide), e9, zuI_o (by decide), e8, zuI_v]; rfl
  exact kk I10 ⟨⟨s29, hr⟩, ⟨by decide, s163⟩, ⟨by decide, s167⟩, ⟨by decide, s164⟩, ⟨by decide, s165⟩, ⟨by decide, s166⟩, ⟨by decide, s172⟩, ⟨by decide, s171⟩, fun k hk => absurd hk (Nat.not_lt_zero k), ⟨s30, s31, s32, by decide⟩, fun i hi => absurd hi (Nat.not_lt_zero i)⟩ r f
