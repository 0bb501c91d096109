/-! ===== the model: a saying ===== -/
theorem mJ_iFr {rb b R : Nat} {I0 I : zI} {L0 L : zL} (h : mJ I0 L0 b R rb I L) (h1 : 700 * rb ≤ b) (h2 : b + R ≤ 700 * rb + 700) : iFr rb I0 L0 I L := by
  obtain ⟨f, g1, g2, g3⟩ := h
  refine ⟨fun a j p q => ?_, fun s p => ?_, fun a j p _ => g1 a j p⟩
  · by_cases a175 : a = 175
    · subst a175
      exact (g2 j (fun z => q (Or.inr (Or.inr (Or.inr (Or.inl ⟨by decide, by omega, by omega⟩)))))).1
    · by_cases a176 : a = 176
      · subst a176
        exact (g2 j (fun z => q (Or.inr (Or.inr (Or.inr (Or.inl ⟨by decide, by omega, by omega⟩)))))).2
      · by_cases a166 : a = 166
        · subst a166
          exact g3 j (fun z => q (Or.inl ⟨by decide, z⟩))
        · have : a ∉ mC := by
            intro z
            have hz : a = 166 ∨ a = 175 ∨ a = 176 ∨ a = 177 ∨ a = 178 ∨ a = 179 := by simpa using z
            have : a = 177 ∨ a = 178 ∨ a = 179 := by omega
            exact q (Or.inr (Or.inr (Or.inr (Or.inr (by rcases this with rfl | rfl | rfl <;> decide)))))
          rw [f.1 a this p]
  · exact f.2 s (fun z => p ((by decide : ∀ y ∈ mL, y ∈ iL) s z))
def aSay (A : Ai) (u : Nat) (c : Cd) : Ai := aU (aU (aU (aCn A (A.1 3) c) (30 + (A.1 3 + 1)) (A.1 (30 + A.1 3) + c.length)) 4 u) 3 (A.1 3 + 1)
abbrev gw_X12_readSaying (d : Nat) (Q : zQt) (pc : Nat) (lv : zV) (st : List Value) (I : zI) (L : zL) (P : zP) : Prop := zW zm_X12_readSaying (zRm d 0 0) 0 0 Q pc lv st I L P 205 0 0
abbrev v_X12_readSaying (d : Nat) (Q : zQt)  (I : zI) (L : zL) (P : zP) : Prop :=
  vp_in (I 160 29) 2 ∧
  vp_in (((6 : Int32) * (I 160 29)) + (I 165 (I 160 29).toNatClampNeg)) 12 ∧
  ∀ I4 : zI, I4 = zuI I 169 (((6 : Int32) * (I 160 29)) + (I 165 (I 160 29).toNatClampNeg)).toNatClampNeg (I 160 32) →
  zMv zm_X12_f d [.ref 160] I4 L P (fun I5 L6 P7 =>
    zPk P7 ∧
    ∀ I12 : zI, I12 = zuI I5 170 (((6 : Int32) * (I 160 29)) + (I 165 (I 160 29).toNatClampNeg)).toNatClampNeg (I5 160 32) →
    vp_in (I12 160 29) 2 ∧
    ∀ I15 : zI, I15 = zuI I12 165 (I12 160 29).toNatClampNeg ((I12 165 (I12 160 29).toNatClampNeg) + 1) →
    Q none I15 L6 P7 205
  )
set_option maxRecDepth 20000 in
theorem g_X12_readSaying {d : Nat} {Q : zQt}  {I : zI} {L : zL} {P : zP} (hP : zPk P) (hv : v_X12_readSaying d Q  I L P) : zM zm_X12_readSaying (d + 1) 0 0 [.ref 160] I L P 205 Q := by
  unfold v_X12_readSaying at hv
  refine zM_of (lv0 := [some (.ref 160), none]) (by decide +kernel) (Nat.le_of_ble_eq_true rfl) rfl ?_
  refine z_bipush (v := 6) dX12_readSaying_0 (by decide) ?_
  refine z_aload_n dX12_readSaying_2 rfl ?_
  refine z_getI dX12_readSaying_3 zf_X12_243 zn_160 zo_160 (fun _ _ _ _ _ => rfl) ?_
  refine z_imul dX12_readSaying_6 ?_
  refine z_aload_n dX12_readSaying_7 rfl ?_
  refine z_getP dX12_readSaying_8 zf_X12_27 zn_160 zo_160 (fun _ _ _ _ _ => rfl) (hP 160 13 165 zp_160_13) ?_
  refine z_aload_n dX12_readSaying_11 rfl ?_
  refine z_getI dX12_readSaying_12 zf_X12_243 zn_160 zo_160 (fun _ _ _ _ _ => rfl) ?_
  obtain ⟨h1, hv⟩ := hv
  refine z_iaload dX12_readSaying_15 zn_165 zh_165 h1 ?_
  refine z_iadd dX12_readSaying_16 ?_
  refine z_istore_n (lv2 := [some (.ref 160), some (.int (((6 : Int32) * (I 160 29)) + (I 165 (I 160 29).toNatClampNeg)))]) dX12_readSaying_17 (by decide) rfl rfl ?_
  refine z_aload_n dX12_readSaying_18 rfl ?_
  refine z_getP dX12_readSaying_19 zf_X12_39 zn_160 zo_160 (fun _ _ _ _ _ => rfl) (hP 160 17 169 zp_160_17) ?_
  refine z_iload_n dX12_readSaying_22 rfl ?_
  refine z_aload_n dX12_readSaying_23 rfl ?_
  refine z_getI dX12_readSaying_24 zf_X12_246 zn_160 zo_160 (fun _ _ _ _ _ => rfl) ?_
  obtain ⟨h2, hv⟩ := hv
  refine z_iastore dX12_readSaying_27 zn_169 zh_169 h2 (z_nmI (fun I4 e3 => ?_))
  have hv := hv I4 e3
  refine z_aload_n dX12_readSaying_28 rfl ?_
  refine z_callV (As := []) (st := []) dX12_readSaying_29 zl_X12_308 zv_X12_f (by decide) rfl zn_160 zo_160 rfl rfl (Nat.le_of_ble_eq_true rfl) ⟨Nat.le_refl _, Nat.le_refl _⟩ ⟨Nat.le_refl _, Nat.le_refl _⟩ hv (fun v1 I5 L6 P7 nx1 q8 => ?_)
  obtain ⟨rfl, rfl, hv⟩ := q8
  refine z_aload_n dX12_readSaying_32 rfl ?_
  obtain ⟨h10, hv⟩ := hv
  refine z_getP dX12_readSaying_33 zf_X12_42 zn_160 zo_160 (fun _ _ _ _ _ => rfl) (h10 160 18 170 zp_160_18) ?_
  refine z_iload_n dX12_readSaying_36 rfl ?_
  refine z_aload_n dX12_readSaying_37 rfl ?_
  refine z_getI dX12_readSaying_38 zf_X12_246 zn_160 zo_160 (fun _ _ _ _ _ => rfl) ?_
  refine z_iastore dX12_readSaying_41 zn_170 zh_170 h2 (z_nmI (fun I12 e11 => ?_))
  have hv := hv I12 e11
  refine z_aload_n dX12_readSaying_42 rfl ?_
  refine z_getP dX12_readSaying_43 zf_X12_27 zn_160 zo_160 (fun _ _ _ _ _ => rfl) (h10 160 13 165 zp_160_13) ?_
  refine z_aload_n dX12_readSaying_46 rfl ?_
  refine z_getI dX12_readSaying_47 zf_X12_243 zn_160 zo_160 (fun _ _ _ _ _ => rfl) ?_
  refine z_dup2 dX12_readSaying_50 rfl rfl ?_
  obtain ⟨h13, hv⟩ := hv
  refine z_iaload dX12_readSaying_51 zn_165 zh_165 h13 ?_
  refine z_iconst (v := 1) dX12_readSaying_52 (by decide) ?_
  refine z_iadd dX12_readSaying_53 ?_
  refine z_iastore dX12_readSaying_54 zn_165 zh_165 h13 (z_nmI (fun I15 e14 => ?_))
  have hv := hv I15 e14
  exact z_return dX12_readSaying_55 rfl (Nat.le_refl _) (Nat.le_refl _) hv
theorem sp_X12_readSaying {d : Nat} {T : Nat → Int32} {n rb e : Nat} {I : zI} {L : zL} {P : zP} {A : Ai} (hP : zPk P) (hM : iM rb I L A) (hp : pS T n I L e) (h4 : I 160 4 = 0) (hs : A.1 3 < 6) (hd : 6 ≤ d) {K : zI → zL → zP → Prop}
    (kf : ∀ k q I' L', (k ≠ 0 ∧ k < 100) → (fRd T n (aNm A) 60 e (A.1 4) = rF k q ∨ ∃ e' u' c', fRd T n (aNm A) 60 e (A.1 4) = rO e' u' c' ∧ rkH (tK T n e') = 4 ∧ k = mis T n e' ∧ q = tA T n e') → iFr rb I L I' L' → I' 160 4 = nI k → I' 160 5 = nI q → pSg I' (I' 160 6) → K I' L' P)
    (kk : ∀ e' u' c', fRd T n (aNm A) 60 e (A.1 4) = rO e' u' c' → rkH (tK T n e') = 0 → ∀ I' L', iM rb I' L' (aSay A u' c') → pS T n I' L' e' → I' 160 4 = 0 → I' 160 5 = I 160 5 → iFr rb I L I' L' → K I' L' P) : zMv zm_X12_readSaying d [.ref 160] I L P K := by
  obtain ⟨d, rfl⟩ : ∃ e, d = e + 1 := ⟨d - 1, by omega⟩
  have hM' := hM
  obtain ⟨⟨h29, hr⟩, m2, m3, m4, m5, m6, m7, m8, m9, m10, m11⟩ := hM
  have ei : ((6 : Int32) * (I 160 29)) + (I 165 (I 160 29).toNatClampNeg) = nI (6 * rb + A.1 3) := by rw [h29, nI_cl (by omega), m5.2, show (6 : Int32) = nI 6 from rfl, pk_mul, nI_add]
  have ci : (nI (6 * rb + A.1 3)).toNatClampNeg = 6 * rb + A.1 3 := nI_cl (by omega)
  refine g_X12_readSaying hP ?_
  unfold v_X12_readSaying
  rw [ei, ci]
  refine ⟨by rw [h29]; exact nx_in hr (by decide), nx_in (by omega) (by decide), fun I1 e1 => ?_⟩
  have hf1 : zFr [169] [] I I1 := by rw [e1]; exact zFr_c (zFr_rf _ _ _) (by decide) (by decide)
  have hr1 : iFr rb I L I1 L := by rw [e1]; exact iFr_c (iFr_rf _ _ _) (Or.inr (Or.inr (Or.inl ⟨by decide, by omega, by omega⟩))) (by decide)
  have s169 : I1 169 (6 * rb + A.1 3) = nI (700 * rb + A.1 (30 + A.1 3)) := by rw [e1, zuI_v]; exact m10.2.2.1
  have o169 : ∀ j, j ≠ 6 * rb + A.1 3 → I1 169 j = I 169 j := fun j hj => by rw [e1, zuI_o hj]
  clear e1
  have hp1 : pS T n I1 L e := pS_fr hp hf1 (by decide) (by decide) (by decide) (by decide) (by decide) (by decide) rfl
  have eR1 : vR I1 = rb := by unfold vR; rw [hf1.2 29 (by simp), h29, nI_cl (by omega)]
  have eRp1 : vRp I1 = A.1 0 := by unfold vRp; rw [eR1, hf1.1 163 (by decide) (by decide), m2.2, nI_cl (by have := m2.1; omega)]
  have hMR1 : MR I1 := ⟨by rw [eR1]; exact hr, by rw [eR1, hf1.2 29 (by simp)]; exact h29, by rw [eRp1]; exact m2.1, by rw [eR1, eRp1, hf1.1 163 (by decide) (by decide)]; exact m2.2⟩
  have nmE : nmF I1 L = aNm A := by
    funext v
    unfold nmF aNm
    rw [eRp1]
    refine nfD_c (fun k _ hk => ?_)
    unfold vNm
    rw [eR1]
    exact (m9 k (by omega)).2.2.2.2
  have hu := m6.1
  have hoff := m10.2.2.2
  have hC : cX I1 rb 60 (700 * rb + A.1 (30 + A.1 3)) (9 * (60 - A.1 4) + 1) := ⟨hMR1, by omega, by rw [hf1.2 30 (by simp)]; exact m10.1, by rw [hf1.2 31 (by simp)]; exact m10.2.1, by decide, by omega⟩
  have hnm : ∀ v k, aNm A v = some k → k < A.1 0 := fun v k h => by have := nfD_lt h; omega
  obtain ⟨r1, r2⟩ := fRd_e (T := T) (n := n) (nm := aNm A) (lim := 60) (e := e) (u := A.1 4) hp.1.2.2.2
  have top := desc_top (T := T) (n := n) (nm := aNm A) (lim := 60) hu r1
  have hq := (desc_q (T := T) (n := n) (lim := 60) hnm (2 * n + 3)).1 0 0 e (A.1 4)
  have h41 : I1 160 4 = 0 := by rw [hf1.2 4 (by simp)]; exact h4
  have h32 : I1 160 32 = nI (700 * rb + A.1 (30 + A.1 3)) := by rw [hf1.2 32 (by simp)]; exact m10.2.2.1
  have h166 : I1 166 rb = nI (A.1 4) := by rw [hf1.1 166 (by decide) (by decide)]; exact m6.2
  have jF : ∀ I2 L2, mJ I1 L (700 * rb + A.1 (30 + A.1 3)) (9 * (60 - A.1 4) + 1) rb I2 L2 → iFr rb I L I2 L2 := fun I2 L2 hj => iFr_tr hr1 (mJ_iFr hj (by omega) (by omega))
  -- behind f: what is left to do
  have tail : ∀ I2 L2, mJ I1 L (700 * rb + A.1 (30 + A.1 3)) (9 * (60 - A.1 4) + 1) rb I2 L2 → (∀ I4, I4 = zuI (zuI I2 170 (6 * rb + A.1 3) (I2 160 32)) 165 rb (nI (A.1 3 + 1)) → iFr rb I L I4 L2 → zFr [165, 170] [] I2 I4 → K I4 L2 P) →
      zPk P ∧ ∀ I12 : zI, I12 = zuI I2 170 (6 * rb + A.1 3) (I2 160 32) → vp_in (I12 160 29) 2 ∧ ∀ I15 : zI, I15 = zuI I12 165 (I12 160 29).toNatClampNeg ((I12 165 (I12 160 29).toNatClampNeg) + 1) → (fun v I' L' P' nx' => nx' = 205 ∧ v = none ∧ K I' L' P') (none : Option Value) I15 L2 P 205 := by
    intro I2 L2 hj hk
    refine ⟨hP, fun I3 e3 => ?_⟩
    have g29 : I3 160 29 = nI rb := by rw [e3, zuI_ne (by decide), hj.1.2 29 (by decide), hf1.2 29 (by simp)]; exact h29
    have g165 : I3 165 rb = nI (A.1 3) := by rw [e3, zuI_ne (by decide), hj.1.1 165 (by decide) (by decide), hf1.1 165 (by decide) (by decide)]; exact m5.2
    rw [g29, nI_cl (by omega), g165, nI_1, e3]
    refine ⟨nx_in hr (by decide), fun I4 e4 => qv (hk I4 e4 ?_ ?_)⟩
    · rw [e4]; exact iFr_c (iFr_c (jF I2 L2 hj) (Or.inr (Or.inr (Or.inl ⟨by decide, by omega, by omega⟩))) (by decide)) (Or.inl ⟨by decide, rfl⟩) (by decide)
    · rw [e4]; exact zFr_c (zFr_c (zFr_rf _ _ _) (by decide) (by decide)) (by decide) (by decide)
  revert top r1 kf kk
  match fRd T n (aNm A) 60 e (A.1 4) with
  | .inl q =>
    intro kf kk r1 top
    refine sp_X12_f (u0 := A.1 4) (lim := 60) (b := 700 * rb + A.1 (30 + A.1 3)) (ua := rb) hP hC rfl hu h41 hp1 h32 h166 (by omega) (r := .inl q) (by rw [nmE]; exact top) (fun hk I2 L2 j1 j2 j3 j4 => ?_)
    exact tail I2 L2 j1 (fun I4 e4 g1 g2 => kf q.1 q.2 I4 L2 hk (Or.inl rfl) g1 (by rw [g2.2 4 (by simp)]; exact j2) (by rw [g2.2 5 (by simp)]; exact j3) (by unfold pSg; rw [g2.2 6 (by simp), g2.2 3 (by simp)]; exact j4))
  | .inr (e', u', c') =>
    intro kf kk r1 top
    obtain ⟨t1, t2, t3⟩ := top
    by_cases hx : rkH (tK T n e') = 4
    · refine sp_X12_f (u0 := A.1 4) (lim := 60) (b := 700 * rb + A.1 (30 + A.1 3)) (ua := rb) hP hC rfl hu h41 hp1 h32 h166 (by omega) (r := mBad T n e') (by rw [nmE]; exact t2 hx) (fun hk I2 L2 j1 j2 j3 j4 => ?_)
      exact tail I2 L2 j1 (fun I4 e4 g1 g2 => kf _ _ I4 L2 hk (Or.inr ⟨e', u', c', rfl, hx, rfl, rfl⟩) g1 (by rw [g2.2 4 (by simp)]; exact j2) (by rw [g2.2 5 (by simp)]; exact j3) (by unfold pSg; rw [g2.2 6 (by simp), g2.2 3 (by simp)]; exact j4))
    · obtain ⟨t4, t5⟩ := t3 hx
      refine sp_X12_f (u0 := A.1 4) (lim := 60) (b := 700 * rb + A.1 (30 + A.1 3)) (ua := rb) hP hC rfl hu h41 hp1 h32 h166 (by omega) (r := mT false [] 0 e' u' (cMp c')) (by rw [nmE]; exact t5) (fun hv I2 L2 hm => ?_)
      obtain ⟨q0, q1⟩ := hq e' u' c' r1 (by decide) (by decide)
      have hl : (cMp c').length = c'.length := List.length_map ..
      have hj := hm.1
      refine tail I2 L2 hj (fun I4 e4 g1 g2 => kk e' u' c' rfl t4 I4 L2 ?_ (pS_fr hm.2.1 g2 (by decide) (by decide) (by decide) (by decide) (by decide) (by decide) rfl) (by rw [g2.2 4 (by simp)]; exact hm.2.2.1.1) (by rw [g2.2 5 (by simp), hm.2.2.1.2, hf1.2 5 (by simp)]) g1)
      have hlen := q1.1.2
      have i32 : I2 160 32 = nI (700 * rb + A.1 (30 + A.1 3) + c'.length) := by rw [hm.2.2.2.2.2.1.1, hl]
      have icd : vCd I2 (700 * rb + A.1 (30 + A.1 3)) c'.length = cMp c' := by have := hm.2.2.2.2.2.1.2; rw [hl] at this; exact this
      have i166 : I2 166 rb = nI u' := hm.2.2.2.2.2.2
      have s165 : I4 165 rb = nI (A.1 3 + 1) := by rw [e4, zuI_v]
      have s170 : ∀ j, I4 170 j = if j = 6 * rb + A.1 3 then nI (700 * rb + A.1 (30 + A.1 3) + c'.length) else I 170 j := by
        intro j
        rw [e4, zuI_ne (by decide)]
        by_cases z : j = 6 * rb + A.1 3
        · rw [if_pos z, z, zuI_v]; exact i32
        · rw [if_neg z, zuI_o z, hj.1.1 170 (by decide) (by decide), hf1.1 170 (by decide) (by decide)]
      have eo : ∀ c, c ≠ 160 → c ≠ 165 → c ≠ 170 → c ≠ 169 → c ∉ mC → I4 c = I c := fun c z1 z2 z3 z4 z5 => by rw [g2.1 c (by simp; omega) z1, hj.1.1 c z5 z1, hf1.1 c (by simp; exact z4) z1]
      have sl : ∀ x, x ∉ mL → I4 160 x = I 160 x := fun x hx => by rw [g2.2 x (by simp), hj.1.2 x hx, hf1.2 x (by simp)]
      have s169' : ∀ j, I4 169 j = I1 169 j := fun j => by rw [g2.1 169 (by decide) (by decide), hj.1.1 169 (by decide) (by decide)]
      have L174 : ∀ k, L2 174 k = L 174 k := fun k => hj.2.1 174 k (fun z => absurd z.1 (by decide))
      have a3 : (aSay A u' c').1 3 = A.1 3 + 1 := aU_v _ _ _
      have a4 : (aSay A u' c').1 4 = u' := by unfold aSay; rw [aU_o (by omega), aU_v]
      have ae : (aSay A u' c').1 (30 + (A.1 3 + 1)) = A.1 (30 + A.1 3) + c'.length := by unfold aSay; rw [aU_o (by omega), aU_o (by omega), aU_v]
      have ao : ∀ j, j ≠ 3 → j ≠ 4 → j ≠ 30 + (A.1 3 + 1) → (aSay A u' c').1 j = A.1 j := fun j z1 z2 z3 => by unfold aSay; rw [aU_o z1, aU_o z2, aU_o z3]; rfl
      have an : (aSay A u' c').2.1 = A.2.1 := rfl
      have ac : ∀ i, (aSay A u' c').2.2 i = if i = A.1 3 then c' else A.2.2 i := fun i => rfl
      have h8 := m2.1
      refine ⟨⟨by rw [sl 29 (by decide)]; exact h29, hr⟩, ⟨by rw [ao 0 (by omega) (by omega) (by omega)]; exact m2.1, by rw [ao 0 (by omega) (by omega) (by omega), eo 163 (by decide) (by decide) (by decide) (by decide) (by decide)]; exact m2.2⟩, ⟨by rw [ao 0 (by omega) (by omega) (by omega), ao 1 (by omega) (by omega) (by omega)]; exact m3.1, by rw [ao 1 (by omega) (by omega) (by omega), eo 167 (by decide) (by decide) (by decide) (by decide) (by decide)]; exact m3.2⟩, ⟨by rw [ao 2 (by omega) (by omega) (by omega)]; exact m4.1, by rw [ao 2 (by omega) (by omega) (by omega), eo 164 (by decide) (by decide) (by decide) (by decide) (by decide)]; exact m4.2⟩, ⟨by rw [a3]; omega, by rw [a3]; exact s165⟩, ⟨by rw [a4]; exact t1, by rw [a4, g2.1 166 (by decide) (by decide)]; exact i166⟩, ⟨by rw [ao 5 (by omega) (by omega) (by omega)]; exact m7.1, by rw [ao 5 (by omega) (by omega) (by omega), eo 172 (by decide) (by decide) (by decide) (by decide) (by decide)]; exact m7.2⟩, ⟨by rw [ao 6 (by omega) (by omega) (by omega)]; exact m8.1, by rw [ao 6 (by omega) (by omega) (by omega), eo 171 (by decide) (by decide) (by decide) (by decide) (by decide)]; exact m8.2⟩, fun k hk => ?_, ⟨by rw [sl 30 (by decide)]; exact m10.1, by rw [sl 31 (by decide)]; exact m10.2.1, ?_, ?_⟩, fun i hi => ?_⟩
      · rw [ao 0 (by omega) (by omega) (by omega)] at hk
        rw [ao (10 + k) (by omega) (by omega) (by omega), ao (20 + k) (by omega) (by omega) (by omega), an, L174, eo 168 (by decide) (by decide) (by decide) (by decide) (by decide), eo 173 (by decide) (by decide) (by decide) (by decide) (by decide)]
        exact m9 k hk
      · rw [a3, ae, g2.2 32 (by simp), i32]; exact nIe (by omega)
      · rw [a3, a4, ae]; omega
      · rw [a3] at hi
        rw [a3, ae, s170, s169', ac, ao 0 (by omega) (by omega) (by omega)]
        have c175 : I4 175 = I2 175 := g2.1 175 (by decide) (by decide)
        have c176 : I4 176 = I2 176 := g2.1 176 (by decide) (by decide)
        rw [vCd_c c175 c176]
        by_cases z : i = A.1 3
        · subst z
          rw [if_pos rfl, if_pos rfl, ae, ao (30 + A.1 3) (by omega) (by omega) (by omega)]
          exact ⟨rfl, Nat.le_refl _, s169, nIe (by omega), icd, u' - A.1 4, by omega, q1⟩
        · obtain ⟨w1, w2, w3, w4, w5, w6⟩ := m11 i (by omega)
          rw [if_neg z, if_neg (by omega), ao (30 + (i + 1)) (by omega) (by omega) (by omega), ao (30 + i) (by omega) (by omega) (by omega), o169 _ (by omega)]
          refine ⟨w1, by omega, w3, w4, ?_, w6⟩
          rw [← w5]
          refine vCd_k _ _ (fun k z1 z2 => ?_)
          obtain ⟨y1, y2⟩ := hj.2.2.1 k (by omega)
          rw [y1, y2, hf1.1 175 (by decide) (by decide), hf1.1 176 (by decide) (by decide)]
          exact ⟨rfl, rfl⟩
