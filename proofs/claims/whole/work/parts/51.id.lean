/-! ===== the model: blind, law ===== -/
theorem see_c : ∀ s, s < 256 → ∀ b, b < 8 → (nI s &&& (((1 : Int32) <<< (nI b &&& 31) : Int32) ^^^ (-1) : Int32) : Int32) = nI (s &&& (255 - 2 ^ b)) := by decide +kernel
section IM2
variable {rb : Nat} {I I' : zI} {L L' : zL} {A : Ai}
theorem iM_sl {sl : List Nat} (h : iM rb I L A) (hf : zFr [] sl I I') (h29 : 29 ∉ sl) (h30 : 30 ∉ sl) (h31 : 31 ∉ sl) (h32 : 32 ∉ sl) (hL : ∀ k, L' 174 k = L 174 k) : iM rb I' L' A := by
  have e : ∀ a, a ≠ 160 → I' a = I a := fun a h => hf.1 a (by simp) h
  unfold iM
  rw [hf.2 29 h29, hf.2 30 h30, hf.2 31 h31, hf.2 32 h32, e 163 (by decide), e 167 (by decide), e 164 (by decide), e 165 (by decide), e 166 (by decide), e 172 (by decide), e 171 (by decide), e 168 (by decide), e 173 (by decide), e 169 (by decide), e 170 (by decide)]
  obtain ⟨m1, m2, m3, m4, m5, m6, m7, m8, m9, m10, m11⟩ := h
  refine ⟨m1, m2, m3, m4, m5, m6, m7, m8, fun k hk => by rw [hL]; exact m9 k hk, m10, fun i hi => ?_⟩
  rw [vCd_c (e 175 (by decide)) (e 176 (by decide))]
  exact m11 i hi
theorem iM_go (h : iM rb I L A) (hf : zFr [] gS I I') (hL : zLn L L') : iM rb I' L' A := iM_sl h hf (by decide) (by decide) (by decide) (by decide) (fun k => hL 174 k (fun z => absurd z.1 (by decide)))
theorem iM_ft {k q : Nat} (h : iM rb I L A) : iM rb (pFt I k q) L A := iM_sl h (pFt_fr I k q) (by decide) (by decide) (by decide) (by decide) (fun _ => rfl)
theorem iM_hR {T : Nat → Int32} {n e : Nat} (h : iM rb I L A) : hR T n e I L = @ite _ (tK T n e = 273) (Classical.propDecidable _) (aNm A (tV T n e)) none := by
  unfold hR
  rw [iM_nm h]
/-- a does not see b any more -/
def aBl (A : Ai) (a b : Nat) : Ai := aU (aU A (10 + a) (A.1 (10 + a) &&& (255 - 2 ^ b))) 2 (A.1 2 + 1)
theorem iM_bl {a b : Nat} (h : iM rb I L A) (ha : a < A.1 0) (hb : A.1 2 < 30) : iM rb (zuI (zuI I 168 (8 * rb + a) (nI (A.1 (10 + a) &&& (255 - 2 ^ b)))) 164 rb (nI (A.1 2 + 1))) L (aBl A a b) ∧ iFr rb I L (zuI (zuI I 168 (8 * rb + a) (nI (A.1 (10 + a) &&& (255 - 2 ^ b)))) 164 rb (nI (A.1 2 + 1))) L ∧ zFr [164, 168] [] I (zuI (zuI I 168 (8 * rb + a) (nI (A.1 (10 + a) &&& (255 - 2 ^ b)))) 164 rb (nI (A.1 2 + 1))) := by
  have hf : zFr [164, 168] [] I (zuI (zuI I 168 (8 * rb + a) (nI (A.1 (10 + a) &&& (255 - 2 ^ b)))) 164 rb (nI (A.1 2 + 1))) := zFr_c (zFr_c (zFr_rf _ _ _) (by decide) (by decide)) (by decide) (by decide)
  have h8 := h.2.1.1
  have hr : iFr rb I L (zuI (zuI I 168 (8 * rb + a) (nI (A.1 (10 + a) &&& (255 - 2 ^ b)))) 164 rb (nI (A.1 2 + 1))) L := iFr_c (iFr_c (iFr_rf _ _ _) (Or.inr (Or.inl ⟨by decide, by omega, by omega⟩)) (by decide)) (Or.inl ⟨by decide, rfl⟩) (by decide)
  refine ⟨?_, hr, hf⟩
  have s164 : (zuI (zuI I 168 (8 * rb + a) (nI (A.1 (10 + a) &&& (255 - 2 ^ b)))) 164 rb (nI (A.1 2 + 1))) 164 rb = nI (A.1 2 + 1) := zuI_v _ _ _ _
  have s168 : ∀ j, (zuI (zuI I 168 (8 * rb + a) (nI (A.1 (10 + a) &&& (255 - 2 ^ b)))) 164 rb (nI (A.1 2 + 1))) 168 j = if j = 8 * rb + a then nI (A.1 (10 + a) &&& (255 - 2 ^ b)) else I 168 j := by
    intro j
    rw [zuI_ne (by decide)]
    by_cases z : j = 8 * rb + a
    · rw [if_pos z, z, zuI_v]
    · rw [if_neg z, zuI_o z]
  generalize zuI (zuI I 168 (8 * rb + a) (nI (A.1 (10 + a) &&& (255 - 2 ^ b)))) 164 rb (nI (A.1 2 + 1)) = I2 at hf s164 s168
  have e : ∀ c, c ≠ 160 → c ≠ 164 → c ≠ 168 → I2 c = I c := fun c h1 h2 h3 => hf.1 c (by simp; omega) h1
  have o : ∀ j, j ≠ 2 → j ≠ 10 + a → (aBl A a b).1 j = A.1 j := fun j h1 h2 => by unfold aBl; rw [aU_o h1, aU_o h2]
  have o2 : (aBl A a b).1 2 = A.1 2 + 1 := aU_v _ _ _
  have oa : (aBl A a b).1 (10 + a) = A.1 (10 + a) &&& (255 - 2 ^ b) := by unfold aBl; rw [aU_o (by omega), aU_v]
  have cc : (aBl A a b).2 = A.2 := rfl
  obtain ⟨m1, m2, m3, m4, m5, m6, m7, m8, m9, m10, m11⟩ := h
  unfold iM
  rw [cc, o2, o 0 (by omega) (by omega), o 1 (by omega) (by omega), o 3 (by omega) (by omega), o 4 (by omega) (by omega), o 5 (by omega) (by omega), o 6 (by omega) (by omega), o (30 + A.1 3) (by omega) (by omega), hf.2 29 (by simp), hf.2 30 (by simp), hf.2 31 (by simp), hf.2 32 (by simp), e 163 (by decide) (by decide) (by decide), e 167 (by decide) (by decide) (by decide), e 165 (by decide) (by decide) (by decide), e 166 (by decide) (by decide) (by decide), e 172 (by decide) (by decide) (by decide), e 171 (by decide) (by decide) (by decide), e 173 (by decide) (by decide) (by decide), e 169 (by decide) (by decide) (by decide), e 170 (by decide) (by decide) (by decide)]
  refine ⟨m1, m2, m3, ⟨by omega, s164⟩, m5, m6, m7, m8, fun k hk => ?_, m10, fun i hi => ?_⟩
  · rw [s168, o (20 + k) (by omega) (by omega)]
    by_cases z : k = a
    · subst z
      rw [if_pos rfl, oa]
      refine ⟨Nat.lt_of_le_of_lt Nat.and_le_left (m9 k hk).1, rfl, (m9 k hk).2.2⟩
    · rw [if_neg (by omega), o (10 + k) (by omega) (by omega)]
      exact m9 k hk
  · have h6 := m5.1
    rw [o (30 + (i + 1)) (by omega) (by omega), o (30 + i) (by omega) (by omega), vCd_c (e 175 (by decide) (by decide) (by decide)) (e 176 (by decide) (by decide) (by decide))]
    exact m11 i hi
end IM2
abbrev gw_X12_readBlind (d : Nat) (Q : zQt) (pc : Nat) (lv : zV) (st : List Value) (I : zI) (L : zL) (P : zP) : Prop := zW zm_X12_readBlind (zRm d 0 0) 0 0 Q pc lv st I L P 205 0 0
abbrev v_X12_readBlind_60 (d : Nat) (Q : zQt) (x1 : Int32) (x2 : Int32) (I : zI) (L : zL) (P : zP) : Prop :=
  zMi zm_X12_known d [.ref 160, .int x2] I L P (fun r38 I34 L35 P36 =>
    zPk P36 ∧
    ((¬ (bP (I34 160 4 = 0)) = 0 →
      vp_in (((8 : Int32) * (I34 160 29)) + x1) 16 ∧
      ∀ I45 : zI, I45 = zuI I34 168 (((8 : Int32) * (I34 160 29)) + x1).toNatClampNeg ((I34 168 (((8 : Int32) * (I34 160 29)) + x1).toNatClampNeg) &&& (((1 : Int32) <<< (r38 &&& 31) : Int32) ^^^ (-1) : Int32) : Int32) →
      vp_in (I45 160 29) 2 ∧
      ∀ I48 : zI, I48 = zuI I45 164 (I45 160 29).toNatClampNeg ((I45 164 (I45 160 29).toNatClampNeg) + 1) →
      Q none I48 L35 P36 205
    ) ∧ ((bP (I34 160 4 = 0)) = 0 →
      Q none I34 L35 P36 205
    ))
  )
set_option maxRecDepth 20000 in
theorem g_X12_readBlind_60 {d : Nat} {Q : zQt} {x1 : Int32} {x2 : Int32} {I : zI} {L : zL} {P : zP} (hP : zPk P) (hv : v_X12_readBlind_60 d Q x1 x2 I L P) : gw_X12_readBlind (d + 1) Q 60 [some (.ref 160), some (.int x1), some (.int x2)] [] I L P := by
  unfold v_X12_readBlind_60 at hv
  refine z_aload_n dX12_readBlind_60 rfl ?_
  refine z_iload_n dX12_readBlind_61 rfl ?_
  refine z_callV (As := [.int x2]) (st := []) dX12_readBlind_62 zl_X12_305 zv_X12_known (by decide) rfl zn_160 zo_160 rfl rfl (Nat.le_of_ble_eq_true rfl) ⟨Nat.le_refl _, Nat.le_refl _⟩ ⟨Nat.le_refl _, Nat.le_refl _⟩ hv (fun v1 I34 L35 P36 nx1 q37 => ?_)
  obtain ⟨rfl, r38, rfl, hv⟩ := q37
  refine z_istore_n (lv2 := [some (.ref 160), some (.int x1), some (.int r38)]) dX12_readBlind_65 (by decide) rfl rfl ?_
  refine z_aload_n dX12_readBlind_66 rfl ?_
  obtain ⟨h39, hv⟩ := hv
  refine z_callV (As := []) (st := []) dX12_readBlind_67 zl_X12_233 zv_X12_isGood (by decide) rfl zn_160 zo_160 rfl rfl (Nat.le_of_ble_eq_true rfl) ⟨Nat.le_refl _, Nat.le_refl _⟩ ⟨Nat.le_refl _, Nat.le_refl _⟩ (sp_X12_isGood h39 (K := fun r I' L' P' => bP (I34 160 4 = 0) = r ∧ I34 = I' ∧ L35 = L' ∧ P36 = P') ⟨rfl, rfl, rfl, rfl⟩) (fun v1 I2 L2 P2 nx1 q41 => ?_)
  obtain ⟨rfl, r40, rfl, rfl, rfl, rfl, rfl⟩ := q41
  refine z_if_ne (tgt := 74) dX12_readBlind_70 (by decide) (fun q42 => ?_) (fun q42 => ?_)
  · have hv := hv.1 q42
    refine z_aload_n dX12_readBlind_74 rfl ?_
    refine z_getP dX12_readBlind_75 zf_X12_36 zn_160 zo_160 (fun _ _ _ _ _ => rfl) (h39 160 16 168 zp_160_16) ?_
    refine z_bipush (v := 8) dX12_readBlind_78 (by decide) ?_
    refine z_aload_n dX12_readBlind_80 rfl ?_
    refine z_getI dX12_readBlind_81 zf_X12_243 zn_160 zo_160 (fun _ _ _ _ _ => rfl) ?_
    refine z_imul dX12_readBlind_84 ?_
    refine z_iload_n dX12_readBlind_85 rfl ?_
    refine z_iadd dX12_readBlind_86 ?_
    refine z_dup2 dX12_readBlind_87 rfl rfl ?_
    obtain ⟨h43, hv⟩ := hv
    refine z_iaload dX12_readBlind_88 zn_168 zh_168 h43 ?_
    refine z_iconst (v := 1) dX12_readBlind_89 (by decide) ?_
    refine z_iload_n dX12_readBlind_90 rfl ?_
    refine z_ishl dX12_readBlind_91 ?_
    refine z_iconst (v := (-1)) dX12_readBlind_92 (by decide) ?_
    refine z_ixor dX12_readBlind_93 ?_
    refine z_iand dX12_readBlind_94 ?_
    refine z_iastore dX12_readBlind_95 zn_168 zh_168 h43 (z_nmI (fun I45 e44 => ?_))
    have hv := hv I45 e44
    refine z_aload_n dX12_readBlind_96 rfl ?_
    refine z_getP dX12_readBlind_97 zf_X12_24 zn_160 zo_160 (fun _ _ _ _ _ => rfl) (h39 160 12 164 zp_160_12) ?_
    refine z_aload_n dX12_readBlind_100 rfl ?_
    refine z_getI dX12_readBlind_101 zf_X12_243 zn_160 zo_160 (fun _ _ _ _ _ => rfl) ?_
    refine z_dup2 dX12_readBlind_104 rfl rfl ?_
    obtain ⟨h46, hv⟩ := hv
    refine z_iaload dX12_readBlind_105 zn_164 zh_164 h46 ?_
    refine z_iconst (v := 1) dX12_readBlind_106 (by decide) ?_
    refine z_iadd dX12_readBlind_107 ?_
    refine z_iastore dX12_readBlind_108 zn_164 zh_164 h46 (z_nmI (fun I48 e47 => ?_))
    have hv := hv I48 e47
    exact z_return dX12_readBlind_109 rfl (Nat.le_refl _) (Nat.le_refl _) hv
  · have hv := hv.2 q42
    exact z_return dX12_readBlind_73 rfl (Nat.le_refl _) (Nat.le_refl _) hv
abbrev v_X12_readBlind (d : Nat) (Q : zQt)  (I : zI) (L : zL) (P : zP) : Prop :=
  zMi zm_X12_here d [.ref 160] I L P (fun r5 I1 L2 P3 =>
    zMi zm_X12_known d [.ref 160, .int r5] I1 L2 P3 (fun r10 I6 L7 P8 =>
      zMi zm_X12_here d [.ref 160] I6 L7 P8 (fun r15 I11 L12 P13 =>
        zPk P13 ∧
        (((bP (I11 160 4 = 0)) = 0 →
          gw_X12_readBlind (d + 1) Q 60 [some (.ref 160), some (.int r10), some (.int r15)] [] I11 L12 P13
        ) ∧ (¬ (bP (I11 160 4 = 0)) = 0 →
          ((r15 < 0 →
            gw_X12_readBlind (d + 1) Q 60 [some (.ref 160), some (.int r10), some (.int r15)] [] I11 L12 P13
          ) ∧ (¬ r15 < 0 →
            ((r10 = r15 →
              zMv zm_X12_fails d [.ref 160, .int 3, .int (I11 160 6)] I11 L12 P13 (fun I22 L23 P24 =>
                gw_X12_readBlind (d + 1) Q 60 [some (.ref 160), some (.int r10), some (.int r15)] [] I22 L23 P24
              )
            ) ∧ (¬ r10 = r15 →
              vp_in (((8 : Int32) * (I11 160 29)) + r10) 16 ∧
              ((¬ (((I11 168 (((8 : Int32) * (I11 160 29)) + r10).toNatClampNeg) >>> (r15 &&& 31) : Int32) &&& 1 : Int32) = 0 →
                gw_X12_readBlind (d + 1) Q 60 [some (.ref 160), some (.int r10), some (.int r15)] [] I11 L12 P13
              ) ∧ ((((I11 168 (((8 : Int32) * (I11 160 29)) + r10).toNatClampNeg) >>> (r15 &&& 31) : Int32) &&& 1 : Int32) = 0 →
                zMv zm_X12_fails d [.ref 160, .int 3, .int (I11 160 6)] I11 L12 P13 (fun I29 L30 P31 =>
                  gw_X12_readBlind (d + 1) Q 60 [some (.ref 160), some (.int r10), some (.int r15)] [] I29 L30 P31
                )
              ))
            ))
          ))
        ))
      )
    )
  )
set_option maxRecDepth 20000 in
theorem g_X12_readBlind {d : Nat} {Q : zQt}  {I : zI} {L : zL} {P : zP} (hP : zPk P) (hv : v_X12_readBlind d Q  I L P) : zM zm_X12_readBlind (d + 1) 0 0 [.ref 160] I L P 205 Q := by
  unfold v_X12_readBlind at hv
  refine zM_of (lv0 := [some (.ref 160), none, none]) (by decide +kernel) (Nat.le_of_ble_eq_true rfl) rfl ?_
  refine z_aload_n dX12_readBlind_0 rfl ?_
  refine z_aload_n dX12_readBlind_1 rfl ?_
  refine z_callV (As := []) (st := [.ref 160]) dX12_readBlind_2 zl_X12_298 zv_X12_here (by decide) rfl zn_160 zo_160 rfl rfl (Nat.le_of_ble_eq_true rfl) ⟨Nat.le_refl _, Nat.le_refl _⟩ ⟨Nat.le_refl _, Nat.le_refl _⟩ hv (fun v1 I1 L2 P3 nx1 q4 => ?_)
  obtain ⟨rfl, r5, rfl, hv⟩ := q4
  refine z_callV (As := [.int r5]) (st := []) dX12_readBlind_5 zl_X12_305 zv_X12_known (by decide) rfl zn_160 zo_160 rfl rfl (Nat.le_of_ble_eq_true rfl) ⟨Nat.le_refl _, Nat.le_refl _⟩ ⟨Nat.le_refl _, Nat.le_refl _⟩ hv (fun v1 I6 L7 P8 nx1 q9 => ?_)
  obtain ⟨rfl, r10, rfl, hv⟩ := q9
  refine z_istore_n (lv2 := [some (.ref 160), some (.int r10), none]) dX12_readBlind_8 (by decide) rfl rfl ?_
  refine z_aload_n dX12_readBlind_9 rfl ?_
  refine z_callV (As := []) (st := []) dX12_readBlind_10 zl_X12_298 zv_X12_here (by decide) rfl zn_160 zo_160 rfl rfl (Nat.le_of_ble_eq_true rfl) ⟨Nat.le_refl _, Nat.le_refl _⟩ ⟨Nat.le_refl _, Nat.le_refl _⟩ hv (fun v1 I11 L12 P13 nx1 q14 => ?_)
  obtain ⟨rfl, r15, rfl, hv⟩ := q14
  refine z_istore_n (lv2 := [some (.ref 160), some (.int r10), some (.int r15)]) dX12_readBlind_13 (by decide) rfl rfl ?_
  refine z_aload_n dX12_readBlind_14 rfl ?_
  obtain ⟨h16, hv⟩ := hv
  refine z_callV (As := []) (st := []) dX12_readBlind_15 zl_X12_233 zv_X12_isGood (by decide) rfl zn_160 zo_160 rfl rfl (Nat.le_of_ble_eq_true rfl) ⟨Nat.le_refl _, Nat.le_refl _⟩ ⟨Nat.le_refl _, Nat.le_refl _⟩ (sp_X12_isGood h16 (K := fun r I' L' P' => bP (I11 160 4 = 0) = r ∧ I11 = I' ∧ L12 = L' ∧ P13 = P') ⟨rfl, rfl, rfl, rfl⟩) (fun v1 I2 L2 P2 nx1 q18 => ?_)
  obtain ⟨rfl, r17, rfl, rfl, rfl, rfl, rfl⟩ := q18
  refine z_if_eq (tgt := 60) dX12_readBlind_18 (by decide) (fun q19 => ?_) (fun q19 => ?_)
  · have hv := hv.1 q19
    exact hv
  · have hv := hv.2 q19
    refine z_iload_n dX12_readBlind_21 rfl ?_
    refine z_if_lt (tgt := 60) dX12_readBlind_22 (by decide) (fun q20 => ?_) (fun q20 => ?_)
    · have hv := hv.1 q20
      exact hv
    · have hv := hv.2 q20
      refine z_iload_n dX12_readBlind_25 rfl ?_
      refine z_iload_n dX12_readBlind_26 rfl ?_
      refine z_icmp_eq (tgt := 51) dX12_readBlind_27 (by decide) (fun q21 => ?_) (fun q21 => ?_)
      · have hv := hv.1 q21
        refine z_aload_n dX12_readBlind_51 rfl ?_
        refine z_iconst (v := 3) dX12_readBlind_52 (by decide) ?_
        refine z_aload_n dX12_readBlind_53 rfl ?_
        refine z_getI dX12_readBlind_54 zf_X12_198 zn_160 zo_160 (fun _ _ _ _ _ => rfl) ?_
        refine z_callV (As := [.int 3, .int (I11 160 6)]) (st := []) dX12_readBlind_57 zl_X12_229 zv_X12_fails (by decide) rfl zn_160 zo_160 rfl rfl (Nat.le_of_ble_eq_true rfl) ⟨Nat.le_refl _, Nat.le_refl _⟩ ⟨Nat.le_refl _, Nat.le_refl _⟩ hv (fun v1 I22 L23 P24 nx1 q25 => ?_)
        obtain ⟨rfl, rfl, hv⟩ := q25
        exact hv
      · have hv := hv.2 q21
        refine z_aload_n dX12_readBlind_30 rfl ?_
        refine z_getP dX12_readBlind_31 zf_X12_36 zn_160 zo_160 (fun _ _ _ _ _ => rfl) (h16 160 16 168 zp_160_16) ?_
        refine z_bipush (v := 8) dX12_readBlind_34 (by decide) ?_
        refine z_aload_n dX12_readBlind_36 rfl ?_
        refine z_getI dX12_readBlind_37 zf_X12_243 zn_160 zo_160 (fun _ _ _ _ _ => rfl) ?_
        refine z_imul dX12_readBlind_40 ?_
        refine z_iload_n dX12_readBlind_41 rfl ?_
        refine z_iadd dX12_readBlind_42 ?_
        obtain ⟨h27, hv⟩ := hv
        refine z_iaload dX12_readBlind_43 zn_168 zh_168 h27 ?_
        refine z_iload_n dX12_readBlind_44 rfl ?_
        refine z_ishr dX12_readBlind_45 ?_
        refine z_iconst (v := 1) dX12_readBlind_46 (by decide) ?_
        refine z_iand dX12_readBlind_47 ?_
        refine z_if_ne (tgt := 60) dX12_readBlind_48 (by decide) (fun q28 => ?_) (fun q28 => ?_)
        · have hv := hv.1 q28
          exact hv
        · have hv := hv.2 q28
          refine z_aload_n dX12_readBlind_51 rfl ?_
          refine z_iconst (v := 3) dX12_readBlind_52 (by decide) ?_
          refine z_aload_n dX12_readBlind_53 rfl ?_
          refine z_getI dX12_readBlind_54 zf_X12_198 zn_160 zo_160 (fun _ _ _ _ _ => rfl) ?_
          refine z_callV (As := [.int 3, .int (I11 160 6)]) (st := []) dX12_readBlind_57 zl_X12_229 zv_X12_fails (by decide) rfl zn_160 zo_160 rfl rfl (Nat.le_of_ble_eq_true rfl) ⟨Nat.le_refl _, Nat.le_refl _⟩ ⟨Nat.le_refl _, Nat.le_refl _⟩ hv (fun v1 I29 L30 P31 nx1 q32 => ?_)
          obtain ⟨rfl, rfl, hv⟩ := q32
          exact hv
section RB
variable {d : Nat} {T : Nat → Int32} {n rb e : Nat} {I : zI} {L : zL} {P : zP} {A : Ai}
theorem lp_X12_readBlind_b {Q : zQt} {x y : Int32} {k : Nat} (hP : zPk P) (hk : k ≠ 0 ∧ k < 100) (h : I 160 4 = nI k) (hd : 2 ≤ d) (kk : Q none I L P 205) : gw_X12_readBlind (d + 1) Q 60 [some (.ref 160), some (.int x), some (.int y)] [] I L P := by
  have hz : ¬ I 160 4 = 0 := by rw [h, nI_zero (by omega)]; exact hk.1
  exact g_X12_readBlind_60 hP (sp_X12_knownB hP hz hd ⟨hP, fun z => absurd (bP_n.mp z) hz, fun _ => kk⟩)
/-- two names; the first can see the second -/
theorem sp_X12_readBlind (hP : zPk P) (hM : iM rb I L A) (hp : pS T n I L e) (h4 : I 160 4 = 0) (hb : A.1 2 < 30) (hd : 3 ≤ d) {K : zI → zL → zP → Prop}
    (kf : ∀ k q I' L', (k ≠ 0 ∧ k < 100) → iFr rb I L I' L' → I' 160 4 = nI k → I' 160 5 = nI q → pSg I' (I' 160 6) →
      ((tK T n e ≠ 273 ∧ k = mis T n e ∧ q = tA T n e) ∨ (tK T n e = 273 ∧ aNm A (tV T n e) = none ∧ k = 4 ∧ q = tA T n e) ∨
        (∃ a, tK T n e = 273 ∧ aNm A (tV T n e) = some a ∧ ((tK T n (tE T n e) ≠ 273 ∧ k = mis T n (tE T n e) ∧ q = tA T n (tE T n e)) ∨ (tK T n (tE T n e) = 273 ∧ aNm A (tV T n (tE T n e)) = none ∧ k = 4 ∧ q = tA T n (tE T n e)) ∨
          (∃ b, tK T n (tE T n e) = 273 ∧ aNm A (tV T n (tE T n e)) = some b ∧ (a = b ∨ (A.1 (10 + a)).testBit b = false) ∧ k = 3 ∧ q = tA T n (tE T n e))))) → K I' L' P)
    (kk : ∀ a b, tK T n e = 273 → aNm A (tV T n e) = some a → tK T n (tE T n e) = 273 → aNm A (tV T n (tE T n e)) = some b → a ≠ b → (A.1 (10 + a)).testBit b = true → ∀ I' L', iM rb I' L' (aBl A a b) → pS T n I' L' (tE T n (tE T n e)) → I' 160 4 = 0 → I' 160 5 = I 160 5 → iFr rb I L I' L' → K I' L' P) : zMv zm_X12_readBlind d [.ref 160] I L P K := by
  obtain ⟨d, rfl⟩ : ∃ e, d = e + 1 := ⟨d - 1, by omega⟩
  obtain ⟨eR, eRp, hMR⟩ := iM_R hM
  have h8 := hM.2.1.1
  have eh := iM_hR (T := T) (n := n) (e := e) hM
  refine g_X12_readBlind hP (sp_X12_here hP hMR hp (sp_X12_known hP hMR h4 hp (by omega) (fun q => ?_) (fun q q2 => ?_) (fun a ha q q2 I1 L1 f1 f2 f3 => ?_)))
  · have v := pFt_v I (mis T n e) (tA T n e)
    have hz : ¬ pFt I (mis T n e) (tA T n e) 160 4 = 0 := by rw [v.1, nI_zero (by have := mis_nz T n e; omega)]; exact (mis_nz T n e).1
    refine sp_X12_here hP (iM_R (iM_ft hM)).2.2 (pS_fr hp (pFt_fr _ _ _) (by decide) (by decide) (by decide) (by decide) (by decide) (by decide) rfl) ⟨hP, fun _ => ?_, fun z => absurd (bP_n.mp z) hz⟩
    exact lp_X12_readBlind_b hP (mis_nz T n e) v.1 (by omega) (qv (kf _ _ _ L (mis_nz T n e) (iFr_ft (iFr_rf _ _ _)) v.1 v.2 (pS_p (pS_fr hp (pFt_fr _ _ _) (by decide) (by decide) (by decide) (by decide) (by decide) (by decide) rfl)) (Or.inl ⟨q, rfl, rfl⟩)))
  · have v := pFt_v I 4 (tA T n e)
    have hz : ¬ pFt I 4 (tA T n e) 160 4 = 0 := by rw [v.1]; decide
    rw [if_pos q] at eh
    refine sp_X12_here hP (iM_R (iM_ft hM)).2.2 (pS_fr hp (pFt_fr _ _ _) (by decide) (by decide) (by decide) (by decide) (by decide) (by decide) rfl) ⟨hP, fun _ => ?_, fun z => absurd (bP_n.mp z) hz⟩
    exact lp_X12_readBlind_b (k := 4) hP ⟨by decide, by decide⟩ v.1 (by omega) (qv (kf 4 _ _ L ⟨by decide, by decide⟩ (iFr_ft (iFr_rf _ _ _)) v.1 v.2 (pS_p (pS_fr hp (pFt_fr _ _ _) (by decide) (by decide) (by decide) (by decide) (by decide) (by decide) rfl)) (Or.inr (Or.inl ⟨q, by rw [← eh]; exact q2, rfl, rfl⟩))))
  · rw [if_pos q2] at eh
    rw [eh] at q
    rw [eRp] at ha
    have hM1 := iM_go hM f1 f2
    have h41 : I1 160 4 = 0 := by rw [f1.2 4 (by decide)]; exact h4
    have h51 : I1 160 5 = I 160 5 := f1.2 5 (by decide)
    have hr1 : iFr rb I L I1 L1 := iFr_go (iFr_rf _ _ _) f1 f2
    obtain ⟨eR1, eRp1, hMR1⟩ := iM_R hM1
    have eh1 := iM_hR (T := T) (n := n) (e := tE T n e) hM1
    have kf3 := fun k p I' L' hk hf h4' h5' h6' z => kf k p I' L' hk hf h4' h5' h6' (Or.inr (Or.inr ⟨a, q2, q, z⟩))
    have rest : ∀ (hok : ∀ b, hR T n (tE T n e) I1 L1 = some b → a ≠ b ∧ (A.1 (10 + a)).testBit b = true), gw_X12_readBlind (d + 1) (fun v I' L' P' nx' => nx' = 205 ∧ v = none ∧ K I' L' P') 60 [some (.ref 160), some (.int (nI a)), some (.int (oI (hR T n (tE T n e) I1 L1)))] [] I1 L1 P := by
      intro hok
      refine g_X12_readBlind_60 hP (sp_X12_known hP hMR1 h41 f3 (by omega) (fun z => ?_) (fun z z2 => ?_) (fun b hb' z z2 I2 L2 g1 g2 g3 => ?_))
      · have m := mis_nz T n (tE T n e)
        have v := pFt_v I1 (mis T n (tE T n e)) (tA T n (tE T n e))
        have hz : ¬ pFt I1 (mis T n (tE T n e)) (tA T n (tE T n e)) 160 4 = 0 := by rw [v.1, nI_zero (by omega)]; exact m.1
        exact ⟨hP, fun y => absurd (bP_n.mp y) hz, fun _ => qv (kf3 _ _ _ L1 m (iFr_ft hr1) v.1 v.2 (pS_p (pS_fr f3 (pFt_fr _ _ _) (by decide) (by decide) (by decide) (by decide) (by decide) (by decide) rfl)) (Or.inl ⟨z, rfl, rfl⟩))⟩
      · have v := pFt_v I1 4 (tA T n (tE T n e))
        have hz : ¬ pFt I1 4 (tA T n (tE T n e)) 160 4 = 0 := by rw [v.1]; decide
        rw [if_pos z] at eh1
        exact ⟨hP, fun y => absurd (bP_n.mp y) hz, fun _ => qv (kf3 4 _ _ L1 ⟨by decide, by decide⟩ (iFr_ft hr1) v.1 v.2 (pS_p (pS_fr f3 (pFt_fr _ _ _) (by decide) (by decide) (by decide) (by decide) (by decide) (by decide) rfl)) (Or.inr (Or.inl ⟨z, by rw [← eh1]; exact z2, rfl, rfl⟩)))⟩
      · have hb2 := hok b z
        rw [if_pos z2] at eh1
        rw [eh1] at z
        rw [eRp1] at hb'
        have hM2 := iM_go hM1 g1 g2
        have h42 : I2 160 4 = 0 := by rw [g1.2 4 (by decide)]; exact h41
        have g29 : I2 160 29 = nI rb := hM2.1.1
        have hr : rb < 2 := hM2.1.2
        obtain ⟨s1, s2, -⟩ := hM2.2.2.2.2.2.2.2.2.1 a ha
        have ei : ((8 : Int32) * (I2 160 29)) + nI a = nI (8 * rb + a) := by rw [g29, show (8 : Int32) = nI 8 from rfl, pk_mul, nI_add]
        rw [ei, nI_cl (by omega), s2, see_c _ s1 b (by omega)]
        obtain ⟨w1, w2, w3⟩ := iM_bl (b := b) hM2 ha hb
        refine ⟨hP, fun _ => ⟨nx_in (by omega) (by decide), fun I3 e3 => ?_⟩, fun y => absurd h42 (bP_0.mp y)⟩
        have t29 : I3 160 29 = nI rb := by rw [e3, zuI_ne (by decide)]; exact g29
        have t164 : I3 164 rb = nI (A.1 2) := by rw [e3, zuI_ne (by decide)]; exact hM2.2.2.2.1.2
        rw [t29, nI_cl (by omega), t164, nI_1, e3]
        refine ⟨nx_in hr (by decide), fun I4 e4 => qv ?_⟩
        rw [← e4] at w1 w2 w3
        refine kk a b q2 q z2 z hb2.1 hb2.2 I4 L2 w1 (pS_fr g3 w3 (by decide) (by decide) (by decide) (by decide) (by decide) (by decide) rfl) (by rw [w3.2 4 (by simp)]; exact h42) (by rw [w3.2 5 (by simp), g1.2 5 (by decide)]; exact h51) (iFr_tr (iFr_go hr1 g1 g2) w2)
    refine sp_X12_here hP hMR1 f3 ⟨hP, fun z => absurd h41 (bP_0.mp z), fun _ => ⟨fun z => rest (fun b hb2 => ?_), fun z => ?_⟩⟩
    · rw [hb2] at z
      have := (hR_lt hb2).1
      exact absurd z (nn0 (by omega))
    · cases ho : hR T n (tE T n e) I1 L1 with
      | none => rw [ho] at z; exact absurd (by decide) z
      | some b =>
        rw [ho] at rest
        obtain ⟨hbl, hbk⟩ := hR_lt ho
        have hb8 : b < 8 := by omega
        rw [if_pos hbk, ho] at eh1
        have e1 : nI a = oI (some b) ↔ a = b := nI_eq (by omega) (by omega)
        have g29 : I1 160 29 = nI rb := hM1.1.1
        have hr : rb < 2 := hM1.1.2
        obtain ⟨s1, s2, -⟩ := hM1.2.2.2.2.2.2.2.2.1 a ha
        have ei : ((8 : Int32) * (I1 160 29)) + nI a = nI (8 * rb + a) := by rw [g29, show (8 : Int32) = nI 8 from rfl, pk_mul, nI_add]
        have v := pFt_v I1 3 (tA T n (tE T n e))
        have flt : (a = b ∨ (A.1 (10 + a)).testBit b = false) → zMv zm_X12_fails d [.ref 160, .int 3, .int (I1 160 6)] I1 L1 P (fun I22 L23 P24 => gw_X12_readBlind (d + 1) (fun v I' L' P' nx' => nx' = 205 ∧ v = none ∧ K I' L' P') 60 [some (.ref 160), some (.int (nI a)), some (.int (oI (some b)))] [] I22 L23 P24) := by
          intro hx
          rw [f3.2.1]
          exact sp_X12_fails (k := 3) hP h41 (lp_X12_readBlind_b (k := 3) hP ⟨by decide, by decide⟩ v.1 (by omega) (qv (kf3 3 _ _ L1 ⟨by decide, by decide⟩ (iFr_ft hr1) v.1 v.2 (pS_p (pS_fr f3 (pFt_fr _ _ _) (by decide) (by decide) (by decide) (by decide) (by decide) (by decide) rfl)) (Or.inr (Or.inr ⟨b, hbk, eh1.symm, hx, rfl, rfl⟩)))))
        rw [e1]
        refine ⟨fun y => flt (Or.inl y), fun y => ⟨by rw [ei]; exact nx_in (by omega) (by decide), ?_⟩⟩
        rw [ei, nI_cl (by omega), s2]
        have e0 : ((nI (A.1 (10 + a)) >>> (oI (some b) &&& 31) : Int32) &&& 1 : Int32) = 0 ↔ (A.1 (10 + a)).testBit b = false := nx_bit0 (by omega) (by omega)
        rw [e0]
        refine ⟨fun y2 => rest (fun b' hb' => ?_), fun y2 => flt (Or.inr y2)⟩
        have : b = b' := Option.some.inj hb'
        subst this
        exact ⟨y, by simpa using y2⟩
end RB
