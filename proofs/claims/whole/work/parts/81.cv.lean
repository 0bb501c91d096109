/-! ===== the class: what fits ===== -/
def ib (x : Int32) (p : Nat) : Prop := ((x >>> (nI p &&& 31) : Int32) &&& 1 : Int32) = 1
theorem ib_iff (x : Int32) {p : Nat} (hp : p < 31) : ib x p ↔ x.toBitVec.getLsbD p = true := by
  unfold ib
  have es : (x >>> (nI p &&& 31) : Int32).toBitVec = x.toBitVec.sshiftRight p := by
    have : ∀ k, k < 31 → ((nI k &&& 31 : Int32).toBitVec.smod 32).toNat = k := by decide +kernel
    rw [Int32.toBitVec_shiftRight, BitVec.sshiftRight_eq', this p hp]
  rw [← Int32.toBitVec_inj, Int32.toBitVec_and, es]
  constructor
  · intro h
    have := congrArg (fun b => b.getLsbD 0) h
    simp only [BitVec.getLsbD_and, BitVec.getLsbD_sshiftRight] at this
    simp at this
    simpa [show p < 32 by omega] using this
  · intro h
    apply BitVec.eq_of_getLsbD_eq
    intro i hi
    simp only [BitVec.getLsbD_and, BitVec.getLsbD_sshiftRight]
    by_cases e : i = 0
    · subst e
      simp [h, show p < 32 by omega]
    · have : (1 : Int32).toBitVec.getLsbD i = false := by
        show (1#32).getLsbD i = false
        rw [BitVec.getLsbD_one]; simp [e]
      rw [this]; simp
theorem ib_or (x y : Int32) {p : Nat} (hp : p < 31) : ib (x ||| y : Int32) p ↔ ib x p ∨ ib y p := by
  rw [ib_iff _ hp, ib_iff _ hp, ib_iff _ hp, Int32.toBitVec_or, BitVec.getLsbD_or, Bool.or_eq_true]
theorem ib_nI {w p : Nat} (hp : p < 31) : ib (nI w) p ↔ w.testBit p = true := by
  rw [ib_iff _ hp]
  show (BitVec.ofNat 32 w).getLsbD p = true ↔ _
  rw [BitVec.getLsbD_ofNat]
  simp [show p < 32 by omega]
theorem ib_not {w p : Nat} (hp : p < 31) : ib (nI w ^^^ (-1) : Int32) p ↔ ¬ w.testBit p = true := by
  rw [ib_iff _ hp]
  show (BitVec.ofNat 32 w ^^^ BitVec.allOnes 32).getLsbD p = true ↔ _
  rw [BitVec.getLsbD_xor, BitVec.getLsbD_ofNat, BitVec.getLsbD_allOnes]
  simp [show p < 32 by omega]
theorem ib_0 {p : Nat} (hp : p < 31) : ¬ ib 0 p := by
  rw [ib_iff _ hp]; simp
/-- the sights are those of the reference -/
def sgR (M I : zI) : Prop := (vNg M ≤ 20 ∧ I 90 5 = nI (vNg M)) ∧ I 90 6 = M 160 60 ∧ ∀ s, s < vNg M → (I 91 s = M 189 s ∧ I 92 s = M 190 s ∧ I 93 s = M 197 s ∧ I 94 s = M 191 s ∧ I 95 s = M 192 s) ∧ (M 192 s < 0 ↔ M 192 s = -1) ∧ (∃ j, j < 12 ∧ M 190 s = nI (j + 1)) ∧ (∃ p, p < vNp M ∧ M 189 s = nI p) ∧ (M 197 s = 0 ∨ M 197 s = 1)
theorem sgR_c {M I I' : zI} (h : sgR M I) (e : ∀ a, 90 ≤ a → a ≤ 95 → I' a = I a) : sgR M I' := by
  unfold sgR
  rw [e 90 (by omega) (by omega), e 91 (by omega) (by omega), e 92 (by omega) (by omega), e 93 (by omega) (by omega), e 94 (by omega) (by omega), e 95 (by omega) (by omega)]
  exact h
abbrev gw_X7_counts (d : Nat) (Q : zQt) (pc : Nat) (lv : zV) (st : List Value) (I : zI) (L : zL) (P : zP) : Prop := zW zm_X7_counts (zRm d 0 0) 0 0 Q pc lv st I L P 205 0 0
abbrev v_X7_counts (d : Nat) (Q : zQt) (p1 : Int32) (p2 : Int32) (I : zI) (L : zL) (P : zP) : Prop :=
  vp_in p1 20 ∧
  ((p2 < (I 94 p1.toNatClampNeg) →
    Q (some (.int 0)) I L P 205
  ) ∧ (¬ p2 < (I 94 p1.toNatClampNeg) →
    (((I 95 p1.toNatClampNeg) = (-1) →
      Q (some (.int 1)) I L P 205
    ) ∧ (¬ (I 95 p1.toNatClampNeg) = (-1) →
      (((I 95 p1.toNatClampNeg) ≤ p2 →
        Q (some (.int 0)) I L P 205
      ) ∧ (¬ (I 95 p1.toNatClampNeg) ≤ p2 →
        Q (some (.int 1)) I L P 205
      ))
    ))
  ))
set_option maxRecDepth 20000 in
theorem g_X7_counts {d : Nat} {Q : zQt} {p1 : Int32} {p2 : Int32} {I : zI} {L : zL} {P : zP} (hP : zPk P) (hv : v_X7_counts d Q p1 p2 I L P) : zM zm_X7_counts d 0 0 [.ref 90, .int p1, .int p2] I L P 205 Q := by
  unfold v_X7_counts at hv
  refine zM_of (lv0 := [some (.ref 90), some (.int p1), some (.int p2)]) (by decide +kernel) (Nat.le_of_ble_eq_true rfl) rfl ?_
  refine z_aload_n dX7_counts_0 rfl ?_
  refine z_getP dX7_counts_1 zf_X7_22 zn_90 zo_90 (fun _ _ _ _ _ => rfl) (hP 90 3 94 zp_90_3) ?_
  refine z_iload_n dX7_counts_4 rfl ?_
  obtain ⟨h1, hv⟩ := hv
  refine z_iaload dX7_counts_5 zn_94 zh_94 h1 ?_
  refine z_iload_n dX7_counts_6 rfl ?_
  refine z_icmp_gt (tgt := 34) dX7_counts_7 (by decide) (fun q2 => ?_) (fun q2 => ?_)
  · have hv := hv.1 q2
    refine z_iconst (v := 0) dX7_counts_34 (by decide) ?_
    exact z_ireturn dX7_counts_35 rfl (by decide) (Nat.le_refl _) (Nat.le_refl _) hv
  · have hv := hv.2 q2
    refine z_aload_n dX7_counts_10 rfl ?_
    refine z_getP dX7_counts_11 zf_X7_25 zn_90 zo_90 (fun _ _ _ _ _ => rfl) (hP 90 4 95 zp_90_4) ?_
    refine z_iload_n dX7_counts_14 rfl ?_
    refine z_iaload dX7_counts_15 zn_95 zh_95 h1 ?_
    refine z_iconst (v := (-1)) dX7_counts_16 (by decide) ?_
    refine z_icmp_eq (tgt := 30) dX7_counts_17 (by decide) (fun q3 => ?_) (fun q3 => ?_)
    · have hv := hv.1 q3
      refine z_iconst (v := 1) dX7_counts_30 (by decide) ?_
      refine z_goto (tgt := 35) dX7_counts_31 (by decide) ?_
      exact z_ireturn dX7_counts_35 rfl (by decide) (Nat.le_refl _) (Nat.le_refl _) hv
    · have hv := hv.2 q3
      refine z_aload_n dX7_counts_20 rfl ?_
      refine z_getP dX7_counts_21 zf_X7_25 zn_90 zo_90 (fun _ _ _ _ _ => rfl) (hP 90 4 95 zp_90_4) ?_
      refine z_iload_n dX7_counts_24 rfl ?_
      refine z_iaload dX7_counts_25 zn_95 zh_95 h1 ?_
      refine z_iload_n dX7_counts_26 rfl ?_
      refine z_icmp_le (tgt := 34) dX7_counts_27 (by decide) (fun q4 => ?_) (fun q4 => ?_)
      · have hv := hv.1 q4
        refine z_iconst (v := 0) dX7_counts_34 (by decide) ?_
        exact z_ireturn dX7_counts_35 rfl (by decide) (Nat.le_refl _) (Nat.le_refl _) hv
      · have hv := hv.2 q4
        refine z_iconst (v := 1) dX7_counts_30 (by decide) ?_
        refine z_goto (tgt := 35) dX7_counts_31 (by decide) ?_
        exact z_ireturn dX7_counts_35 rfl (by decide) (Nat.le_refl _) (Nat.le_refl _) hv
theorem sp_X7_counts {d i : Nat} {I : zI} {L : zL} {P : zP} {k : Int32} (hP : zPk P) (hi : i < 20) {K : Int32 → zI → zL → zP → Prop} (kk : K (bP (¬ k < I 94 i ∧ (I 95 i = -1 ∨ ¬ I 95 i ≤ k))) I L P) : zMi zm_X7_counts d [.ref 90, .int (nI i), .int k] I L P K := by
  refine g_X7_counts hP ?_
  unfold v_X7_counts
  rw [nI_cl (by omega)]
  refine ⟨nx_in hi (by decide), fun q => qi ?_, fun q => ⟨fun q2 => qi ?_, fun q2 => ⟨fun q3 => qi ?_, fun q3 => qi ?_⟩⟩⟩
  · rwa [bP_f (fun z => z.1 q)] at kk
  · rwa [bP_t ⟨q, Or.inl q2⟩] at kk
  · rwa [bP_f (fun z => z.2.elim q2 (fun y => y q3))] at kk
  · rwa [bP_t ⟨q, Or.inr q3⟩] at kk
abbrev gw_X1_nightOf (d : Nat) (Q : zQt) (pc : Nat) (lv : zV) (st : List Value) (I : zI) (L : zL) (P : zP) : Prop := zW zm_X1_nightOf (zRm d 0 0) 0 0 Q pc lv st I L P 205 0 0
abbrev v_X1_nightOf (d : Nat) (Q : zQt) (p1 : Int32) (p2 : Int32) (I : zI) (L : zL) (P : zP) : Prop :=
  Q (some (.int ((p1 >>> (((4 : Int32) * p2) &&& 31) : Int32) &&& 15 : Int32))) I L P 205
set_option maxRecDepth 20000 in
theorem g_X1_nightOf {d : Nat} {Q : zQt} {p1 : Int32} {p2 : Int32} {I : zI} {L : zL} {P : zP} (hP : zPk P) (hv : v_X1_nightOf d Q p1 p2 I L P) : zM zm_X1_nightOf d 0 0 [.int p1, .int p2] I L P 205 Q := by
  unfold v_X1_nightOf at hv
  refine zM_of (lv0 := [some (.int p1), some (.int p2)]) (by decide +kernel) (Nat.le_of_ble_eq_true rfl) rfl ?_
  refine z_iload_n dX1_nightOf_0 rfl ?_
  refine z_iconst (v := 4) dX1_nightOf_1 (by decide) ?_
  refine z_iload_n dX1_nightOf_2 rfl ?_
  refine z_imul dX1_nightOf_3 ?_
  refine z_ishr dX1_nightOf_4 ?_
  refine z_bipush (v := 15) dX1_nightOf_5 (by decide) ?_
  refine z_iand dX1_nightOf_7 ?_
  exact z_ireturn dX1_nightOf_8 rfl rfl (Nat.le_refl _) (Nat.le_refl _) hv
theorem sp_X1_nightOf {d p np : Nat} {f : Nat → Nat} {I : zI} {L : zL} {P : zP} (hP : zPk P) (hf : ∀ p, f p < 16) (hp : p < np) (h6 : np ≤ 6) {K : Int32 → zI → zL → zP → Prop} (kk : K (nI (f p)) I L P) : zMi zm_X1_nightOf d [.int (nI (wd f np)), .int (nI p)] I L P K := by
  have h1 := wd_lt hf np
  have h2 : 2 ^ (4 * np) ≤ 2 ^ 24 := p2m (by omega)
  have e : (((nI (wd f np) >>> (((4 : Int32) * nI p) &&& 31) : Int32)) &&& 15 : Int32) = nI (f p) := by
    rw [show (4 : Int32) = nI 4 from rfl, pk_mul, nx_shr (by omega) (by omega), show (15 : Int32) = nI (2 ^ 4 - 1) from rfl, nx_mask, wd_ni hf hp]
  refine g_X1_nightOf hP ?_
  unfold v_X1_nightOf
  rw [e]
  exact qi kk
abbrev gw_X7_agree (d : Nat) (Q : zQt) (pc : Nat) (lv : zV) (st : List Value) (I : zI) (L : zL) (P : zP) : Prop := zW zm_X7_agree (zRm d 0 0) 0 0 Q pc lv st I L P 205 0 0
abbrev v_X7_agree_2 (d : Nat) (Q : zQt) (p1 : Int32) (p2 : Int32) (x3 : Int32) (I : zI) (L : zL) (P : zP) : Prop :=
  (((I 90 5) ≤ x3 →
    Q (some (.int 1)) I L P 205
  ) ∧ (¬ (I 90 5) ≤ x3 →
    vp_in x3 20 ∧
    zMi zm_X1_nightOf d [.int p1, .int (I 91 x3.toNatClampNeg)] I L P (fun r7 I3 L4 P5 =>
      zPk P5 ∧
      ((¬ r7 = (I3 92 x3.toNatClampNeg) →
        zMi zm_X7_counts d [.ref 90, .int x3, .int p2] I3 L4 P5 (fun r14 I10 L11 P12 =>
          ((r14 = 0 →
            gw_X7_agree (d + 1) Q 2 [some (.ref 90), some (.int p1), some (.int p2), some (.int (x3 + 1)), none] [] I10 L11 P12
          ) ∧ (¬ r14 = 0 →
            zPk P12 ∧
            ((0 = (I10 93 x3.toNatClampNeg) →
              gw_X7_agree (d + 1) Q 2 [some (.ref 90), some (.int p1), some (.int p2), some (.int (x3 + 1)), none] [] I10 L11 P12
            ) ∧ (¬ 0 = (I10 93 x3.toNatClampNeg) →
              Q (some (.int 0)) I10 L11 P12 205
            ))
          ))
        )
      ) ∧ (r7 = (I3 92 x3.toNatClampNeg) →
        zMi zm_X7_counts d [.ref 90, .int x3, .int p2] I3 L4 P5 (fun r22 I18 L19 P20 =>
          ((r22 = 0 →
            gw_X7_agree (d + 1) Q 2 [some (.ref 90), some (.int p1), some (.int p2), some (.int (x3 + 1)), none] [] I18 L19 P20
          ) ∧ (¬ r22 = 0 →
            zPk P20 ∧
            ((1 = (I18 93 x3.toNatClampNeg) →
              gw_X7_agree (d + 1) Q 2 [some (.ref 90), some (.int p1), some (.int p2), some (.int (x3 + 1)), none] [] I18 L19 P20
            ) ∧ (¬ 1 = (I18 93 x3.toNatClampNeg) →
              Q (some (.int 0)) I18 L19 P20 205
            ))
          ))
        )
      ))
    )
  ))
set_option maxRecDepth 20000 in
theorem g_X7_agree_2 {d : Nat} {Q : zQt} {p1 : Int32} {p2 : Int32} {x3 : Int32} {I : zI} {L : zL} {P : zP} (hP : zPk P) (hv : v_X7_agree_2 d Q p1 p2 x3 I L P) : gw_X7_agree (d + 1) Q 2 [some (.ref 90), some (.int p1), some (.int p2), some (.int x3), none] [] I L P := by
  unfold v_X7_agree_2 at hv
  refine z_iload_n dX7_agree_2 rfl ?_
  refine z_aload_n dX7_agree_3 rfl ?_
  refine z_getI dX7_agree_4 zf_X7_28 zn_90 zo_90 (fun _ _ _ _ _ => rfl) ?_
  refine z_icmp_ge (tgt := 64) dX7_agree_7 (by decide) (fun q1 => ?_) (fun q1 => ?_)
  · have hv := hv.1 q1
    refine z_iconst (v := 1) dX7_agree_64 (by decide) ?_
    exact z_ireturn dX7_agree_65 rfl (by decide) (Nat.le_refl _) (Nat.le_refl _) hv
  · have hv := hv.2 q1
    refine z_iload_n dX7_agree_10 rfl ?_
    refine z_aload_n dX7_agree_11 rfl ?_
    refine z_getP dX7_agree_12 zf_X7_11 zn_90 zo_90 (fun _ _ _ _ _ => rfl) (hP 90 0 91 zp_90_0) ?_
    refine z_iload_n dX7_agree_15 rfl ?_
    obtain ⟨h2, hv⟩ := hv
    refine z_iaload dX7_agree_16 zn_91 zh_91 h2 ?_
    refine z_callS (As := [.int p1, .int (I 91 x3.toNatClampNeg)]) (st := []) dX7_agree_17 zl_X7_36 zs_X1_nightOf rfl rfl (Nat.le_of_ble_eq_true rfl) ⟨Nat.le_refl _, Nat.le_refl _⟩ ⟨Nat.le_refl _, Nat.le_refl _⟩ hv (fun v1 I3 L4 P5 nx1 q6 => ?_)
    obtain ⟨rfl, r7, rfl, hv⟩ := q6
    refine z_aload_n dX7_agree_20 rfl ?_
    obtain ⟨h8, hv⟩ := hv
    refine z_getP dX7_agree_21 zf_X7_15 zn_90 zo_90 (fun _ _ _ _ _ => rfl) (h8 90 1 92 zp_90_1) ?_
    refine z_iload_n dX7_agree_24 rfl ?_
    refine z_iaload dX7_agree_25 zn_92 zh_92 h2 ?_
    refine z_icmp_ne (tgt := 33) dX7_agree_26 (by decide) (fun q9 => ?_) (fun q9 => ?_)
    · have hv := hv.1 q9
      refine z_iconst (v := 0) dX7_agree_33 (by decide) ?_
      refine z_istore (lv2 := [some (.ref 90), some (.int p1), some (.int p2), some (.int x3), some (.int 0)]) dX7_agree_34 (by decide) rfl rfl ?_
      refine z_aload_n dX7_agree_36 rfl ?_
      refine z_iload_n dX7_agree_37 rfl ?_
      refine z_iload_n dX7_agree_38 rfl ?_
      refine z_callV (As := [.int x3, .int p2]) (st := []) dX7_agree_39 zl_X7_42 zv_X7_counts (by decide) rfl zn_90 zo_90 rfl rfl (Nat.le_of_ble_eq_true rfl) ⟨Nat.le_refl _, Nat.le_refl _⟩ ⟨Nat.le_refl _, Nat.le_refl _⟩ hv (fun v1 I10 L11 P12 nx1 q13 => ?_)
      obtain ⟨rfl, r14, rfl, hv⟩ := q13
      refine z_if_eq (tgt := 58) dX7_agree_42 (by decide) (fun q15 => ?_) (fun q15 => ?_)
      · have hv := hv.1 q15
        refine z_iinc (v2 := x3 + 1) (lv2 := [some (.ref 90), some (.int p1), some (.int p2), some (.int (x3 + 1)), some (.int 0)]) dX7_agree_58 rfl (by rfl) (by decide) rfl rfl ?_
        refine z_goto (tgt := 2) dX7_agree_61 (by decide) ?_
        exact z_sub (by exact ⟨rfl, ⟨rfl, ⟨rfl, ⟨rfl, trivial⟩⟩⟩⟩) hv
      · have hv := hv.2 q15
        refine z_iload dX7_agree_45 rfl ?_
        refine z_aload_n dX7_agree_47 rfl ?_
        obtain ⟨h16, hv⟩ := hv
        refine z_getP dX7_agree_48 zf_X7_18 zn_90 zo_90 (fun _ _ _ _ _ => rfl) (h16 90 2 93 zp_90_2) ?_
        refine z_iload_n dX7_agree_51 rfl ?_
        refine z_zaload dX7_agree_52 zn_93 zh_93 h2 ?_
        refine z_icmp_eq (tgt := 58) dX7_agree_53 (by decide) (fun q17 => ?_) (fun q17 => ?_)
        · have hv := hv.1 q17
          refine z_iinc (v2 := x3 + 1) (lv2 := [some (.ref 90), some (.int p1), some (.int p2), some (.int (x3 + 1)), some (.int 0)]) dX7_agree_58 rfl (by rfl) (by decide) rfl rfl ?_
          refine z_goto (tgt := 2) dX7_agree_61 (by decide) ?_
          exact z_sub (by exact ⟨rfl, ⟨rfl, ⟨rfl, ⟨rfl, trivial⟩⟩⟩⟩) hv
        · have hv := hv.2 q17
          refine z_iconst (v := 0) dX7_agree_56 (by decide) ?_
          exact z_ireturn dX7_agree_57 rfl (by decide) (Nat.le_refl _) (Nat.le_refl _) hv
    · have hv := hv.2 q9
      refine z_iconst (v := 1) dX7_agree_29 (by decide) ?_
      refine z_goto (tgt := 34) dX7_agree_30 (by decide) ?_
      refine z_istore (lv2 := [some (.ref 90), some (.int p1), some (.int p2), some (.int x3), some (.int 1)]) dX7_agree_34 (by decide) rfl rfl ?_
      refine z_aload_n dX7_agree_36 rfl ?_
      refine z_iload_n dX7_agree_37 rfl ?_
      refine z_iload_n dX7_agree_38 rfl ?_
      refine z_callV (As := [.int x3, .int p2]) (st := []) dX7_agree_39 zl_X7_42 zv_X7_counts (by decide) rfl zn_90 zo_90 rfl rfl (Nat.le_of_ble_eq_true rfl) ⟨Nat.le_refl _, Nat.le_refl _⟩ ⟨Nat.le_refl _, Nat.le_refl _⟩ hv (fun v1 I18 L19 P20 nx1 q21 => ?_)
      obtain ⟨rfl, r22, rfl, hv⟩ := q21
      refine z_if_eq (tgt := 58) dX7_agree_42 (by decide) (fun q23 => ?_) (fun q23 => ?_)
      · have hv := hv.1 q23
        refine z_iinc (v2 := x3 + 1) (lv2 := [some (.ref 90), some (.int p1), some (.int p2), some (.int (x3 + 1)), some (.int 1)]) dX7_agree_58 rfl (by rfl) (by decide) rfl rfl ?_
        refine z_goto (tgt := 2) dX7_agree_61 (by decide) ?_
        exact z_sub (by exact ⟨rfl, ⟨rfl, ⟨rfl, ⟨rfl, trivial⟩⟩⟩⟩) hv
      · have hv := hv.2 q23
        refine z_iload dX7_agree_45 rfl ?_
        refine z_aload_n dX7_agree_47 rfl ?_
        obtain ⟨h24, hv⟩ := hv
        refine z_getP dX7_agree_48 zf_X7_18 zn_90 zo_90 (fun _ _ _ _ _ => rfl) (h24 90 2 93 zp_90_2) ?_
        refine z_iload_n dX7_agree_51 rfl ?_
        refine z_zaload dX7_agree_52 zn_93 zh_93 h2 ?_
        refine z_icmp_eq (tgt := 58) dX7_agree_53 (by decide) (fun q25 => ?_) (fun q25 => ?_)
        · have hv := hv.1 q25
          refine z_iinc (v2 := x3 + 1) (lv2 := [some (.ref 90), some (.int p1), some (.int p2), some (.int (x3 + 1)), some (.int 1)]) dX7_agree_58 rfl (by rfl) (by decide) rfl rfl ?_
          refine z_goto (tgt := 2) dX7_agree_61 (by decide) ?_
          exact z_sub (by exact ⟨rfl, ⟨rfl, ⟨rfl, ⟨rfl, trivial⟩⟩⟩⟩) hv
        · have hv := hv.2 q25
          refine z_iconst (v := 0) dX7_agree_56 (by decide) ?_
          exact z_ireturn dX7_agree_57 rfl (by decide) (Nat.le_refl _) (Nat.le_refl _) hv
abbrev v_X7_agree (d : Nat) (Q : zQt) (p1 : Int32) (p2 : Int32) (I : zI) (L : zL) (P : zP) : Prop :=
  gw_X7_agree (d + 1) Q 2 [some (.ref 90), some (.int p1), some (.int p2), some (.int 0), none] [] I L P
set_option maxRecDepth 20000 in
theorem g_X7_agree {d : Nat} {Q : zQt} {p1 : Int32} {p2 : Int32} {I : zI} {L : zL} {P : zP} (hP : zPk P) (hv : v_X7_agree d Q p1 p2 I L P) : zM zm_X7_agree (d + 1) 0 0 [.ref 90, .int p1, .int p2] I L P 205 Q := by
  unfold v_X7_agree at hv
  refine zM_of (lv0 := [some (.ref 90), some (.int p1), some (.int p2), none, none]) (by decide +kernel) (Nat.le_of_ble_eq_true rfl) rfl ?_
  refine z_iconst (v := 0) dX7_agree_0 (by decide) ?_
  refine z_istore_n (lv2 := [some (.ref 90), some (.int p1), some (.int p2), some (.int 0), none]) dX7_agree_1 (by decide) rfl rfl ?_
  exact hv
theorem sp_X7_agree {d : Nat} {M I : zI} {L : zL} {P : zP} {k : Int32} {inn : Nat → Prop} {w : Nat} (hP : zPk P) (h6 : vNp M ≤ 6) (hR : sgR M I) (iw : inn w) (hd : 1 ≤ d) {K : Int32 → zI → zL → zP → Prop} (kk : K (bP (fFi M inn k 12 w)) I L P) : zMi zm_X7_agree d [.ref 90, .int (nI (wd (fun p => nbF M inn w p 12) (vNp M))), .int k] I L P K := by
  obtain ⟨d, rfl⟩ : ∃ e, d = e + 1 := ⟨d - 1, by omega⟩
  have hf : ∀ p, (fun p => nbF M inn w p 12) p < 16 := fun p => by have := nbF_le (M := M) (inn := inn) w p 12; show nbF M inn w p 12 < 16; omega
  have iff1 : fFi M inn k 12 w ↔ ∀ s, s < vNg M → (∀ j, j < 12 → fOk M (nI (j + 1)) k (fGj M inn j w) s) := ⟨fun z s hs j hj => z.2 j hj s hs, fun z => ⟨iw, fun j hj s hs => z s hs j hj⟩⟩
  have key : ∀ m i, i + m = vNg M → (∀ s, s < i → ∀ j, j < 12 → fOk M (nI (j + 1)) k (fGj M inn j w) s) → gw_X7_agree (d + 1) (fun v I' L' P' nx' => nx' = 205 ∧ ∃ r, v = some (.int r) ∧ K r I' L' P') 2 [some (.ref 90), some (.int (nI (wd (fun p => nbF M inn w p 12) (vNp M)))), some (.int k), some (.int (nI i)), none] [] I L P := by
    intro m
    induction m with
    | zero =>
      intro i hi h1
      have : i = vNg M := by omega
      subst this
      rw [bP_t (iff1.mpr h1)] at kk
      exact g_X7_agree_2 hP ⟨fun _ => qi kk, fun z => absurd (by rw [hR.1.2]; exact nI_le (Nat.le_refl _) (by have := hR.1.1; omega)) z⟩
    | succ m ih =>
      intro i hi h1
      have h20 := hR.1.1
      obtain ⟨⟨e91, e92, e93, e94, e95⟩, hneg, ⟨j, hj, e190⟩, ⟨p, hp, e189⟩, h197⟩ := hR.2.2 i (by omega)
      have ci : (nI i).toNatClampNeg = i := nI_cl (by omega)
      have np8 : nbF M inn w p 12 < 2 ^ 31 := by have := nbF_le (M := M) (inn := inn) w p 12; omega
      have cnt : (¬ k < I 94 i ∧ (I 95 i = -1 ∨ ¬ I 95 i ≤ k)) ↔ (¬ k < M 191 i ∧ (M 192 i < 0 ∨ ¬ M 192 i ≤ k)) := by rw [e94, e95, hneg]
      have rel : ∀ j', fRel M (nI (j' + 1)) k i ↔ (M 190 i = nI (j' + 1) ∧ (¬ k < M 191 i ∧ (M 192 i < 0 ∨ ¬ M 192 i ≤ k))) := fun _ => Iff.rfl
      have okj : ((¬ k < M 191 i ∧ (M 192 i < 0 ∨ ¬ M 192 i ≤ k)) → ((fGj M inn j w).testBit p = true ↔ M 197 i = 1)) → ∀ j', j' < 12 → fOk M (nI (j' + 1)) k (fGj M inn j' w) i := by
        intro h j' hj' hr
        have hr := (rel j').mp hr
        have : j' = j := by
          have := hr.1
          rw [e190, nI_eq (by omega) (by omega)] at this
          omega
        subst this
        rw [e189, nI_cl (by omega)]
        exact h hr.2
      have next : ((¬ k < M 191 i ∧ (M 192 i < 0 ∨ ¬ M 192 i ≤ k)) → ((fGj M inn j w).testBit p = true ↔ M 197 i = 1)) → gw_X7_agree (d + 1) (fun v I' L' P' nx' => nx' = 205 ∧ ∃ r, v = some (.int r) ∧ K r I' L' P') 2 [some (.ref 90), some (.int (nI (wd (fun p => nbF M inn w p 12) (vNp M)))), some (.int k), some (.int (nI i + 1)), none] [] I L P := by
        intro h
        rw [nI_1]
        refine ih (i + 1) (by omega) (fun s hs => ?_)
        rcases Nat.lt_succ_iff_lt_or_eq.mp hs with z | z
        · exact h1 s z
        · subst z; exact okj h
      have stop : (¬ k < M 191 i ∧ (M 192 i < 0 ∨ ¬ M 192 i ≤ k)) → ¬ ((fGj M inn j w).testBit p = true ↔ M 197 i = 1) → K 0 I L P := by
        intro h h2
        rw [bP_f (fun z => h2 ?_)] at kk
        · exact kk
        · have := (iff1.mp z) i (by omega) j hj ⟨e190, h⟩
          rw [e189, nI_cl (by omega)] at this
          exact this
      refine g_X7_agree_2 hP ⟨fun z => absurd z (by rw [hR.1.2]; exact nI_ge (by omega) (by omega)), fun _ => ?_⟩
      rw [ci, e91, e189]
      refine ⟨nx_in (by omega) (by decide), sp_X1_nightOf hP hf hp h6 ⟨hP, fun z => ?_, fun z => ?_⟩⟩
      · rw [e92, e190] at z
        have hnb : ¬ (fGj M inn j w).testBit p = true := fun y => z (nIe ((nbF_iff 12 j hj).mpr y))
        refine sp_X7_counts hP (by omega) ⟨fun y => next (fun c => absurd (cnt.mpr c) (bP_0.mp y)), fun y => ⟨hP, fun x => next (fun _ => ⟨fun v => absurd v hnb, fun v => ?_⟩), fun x => qi (stop (cnt.mp (bP_n.mp y)) (fun v => ?_))⟩⟩
        · rw [e93] at x; rw [← x] at v; exact absurd v (by decide)
        · rcases h197 with u | u
          · exact x (by rw [e93]; exact u.symm)
          · exact hnb (v.mpr u)
      · rw [e92, e190] at z
        have z : nI (nbF M inn w p 12) = nI (j + 1) := z
        have hnb : (fGj M inn j w).testBit p = true := (nbF_iff 12 j hj).mp ((nI_eq np8 (by omega)).mp z)
        refine sp_X7_counts hP (by omega) ⟨fun y => next (fun c => absurd (cnt.mpr c) (bP_0.mp y)), fun y => ⟨hP, fun x => next (fun _ => ⟨fun _ => by rw [← e93]; exact x.symm, fun _ => hnb⟩), fun x => qi (stop (cnt.mp (bP_n.mp y)) (fun v => x (by rw [e93]; exact (v.mp hnb).symm)))⟩⟩
  exact g_X7_agree hP (key (vNg M) 0 (by omega) (fun s hs => absurd hs (Nat.not_lt_zero s)))
abbrev gw_X1_scan (d : Nat) (Q : zQt) (pc : Nat) (lv : zV) (st : List Value) (I : zI) (L : zL) (P : zP) : Prop := zW zm_X1_scan (zRm d 0 0) 0 0 Q pc lv st I L P 205 0 0
abbrev v_X1_scan_28 (d : Nat) (Q : zQt) (p1 : Nat) (p3 : Int32) (x4 : Int32) (x5 : Int32) (x6 : Int32) (I : zI) (L : zL) (P : zP) : Prop :=
  (p1 < 205 ∧ (zsh p1).1 = 2) ∧
  il p1 ∧
  vp_in (I p1 0) 9 ∧
  (((nI (2 ^ (I p1 0).toNatClampNeg)) ≤ x6 →
    gw_X1_scan (d + 1) Q 16 [some (.ref 96), some (.ref p1), some (.ref 90), some (.int p3), some (.int x4), some (.int (x5 + 1)), none, none] [] I L P
  ) ∧ (¬ (nI (2 ^ (I p1 0).toNatClampNeg)) ≤ x6 →
    ((64 ≤ x6 →
      gw_X1_scan (d + 1) Q 16 [some (.ref 96), some (.ref p1), some (.ref 90), some (.int p3), some (.int x4), some (.int (x5 + 1)), none, none] [] I L P
    ) ∧ (¬ 64 ≤ x6 →
      vp_in x5 7 ∧
      ∃ b15 : Nat, P 97 x5.toNatClampNeg = some b15 ∧
      ∃ n18, (b15 < 205 ∧ zsh b15 = (100, n18)) ∧
      vp_in x6 n18 ∧
      (((I b15 x6.toNatClampNeg) = (-1) →
        gw_X1_scan (d + 1) Q 28 [some (.ref 96), some (.ref p1), some (.ref 90), some (.int p3), some (.int x4), some (.int x5), some (.int (x6 + 1)), none] [] I L P
      ) ∧ (¬ (I b15 x6.toNatClampNeg) = (-1) →
        zMi zm_X7_agree d [.ref 90, .int (I b15 x6.toNatClampNeg), .int p3] I L P (fun r25 I21 L22 P23 =>
          ((r25 = 0 →
            gw_X1_scan (d + 1) Q 28 [some (.ref 96), some (.ref p1), some (.ref 90), some (.int p3), some (.int x4), some (.int x5), some (.int (x6 + 1)), none] [] I21 L22 P23
          ) ∧ (¬ r25 = 0 →
            ∀ I27 : zI, I27 = zuI I21 96 5 ((I21 96 5) ||| x6 : Int32) →
            ∀ I29 : zI, I29 = zuI I27 96 6 ((I27 96 6) ||| (x6 ^^^ (-1) : Int32) : Int32) →
            gw_X1_scan (d + 1) Q 28 [some (.ref 96), some (.ref p1), some (.ref 90), some (.int p3), some (.int (x4 + 1)), some (.int x5), some (.int (x6 + 1)), none] [] I29 L22 P23
          ))
        )
      ))
    ))
  ))
set_option maxRecDepth 20000 in
theorem g_X1_scan_28 {d : Nat} {Q : zQt} {p1 : Nat} {p3 : Int32} {x4 : Int32} {x5 : Int32} {x6 : Int32} {I : zI} {L : zL} {P : zP} (hP : zPk P) (hv : v_X1_scan_28 d Q p1 p3 x4 x5 x6 I L P) : gw_X1_scan (d + 1) Q 28 [some (.ref 96), some (.ref p1), some (.ref 90), some (.int p3), some (.int x4), some (.int x5), some (.int x6), none] [] I L P := by
  unfold v_X1_scan_28 at hv
  refine z_iload dX1_scan_28 rfl ?_
  refine z_aload_n dX1_scan_30 rfl ?_
  obtain ⟨h7, hv⟩ := hv
  obtain ⟨h8, hv⟩ := hv
  obtain ⟨h9, hv⟩ := hv
  refine z_callV (As := []) (st := [.int x6]) dX1_scan_31 zl_X1_106 zv_X2_worldCount (by decide) rfl h7.1 h7.2 rfl rfl (Nat.le_of_ble_eq_true rfl) ⟨Nat.le_refl _, Nat.le_refl _⟩ ⟨Nat.le_refl _, Nat.le_refl _⟩ (sp_X2_worldCount hP h8 h9 (K := fun r I' L' P' => nI (2 ^ (I p1 0).toNatClampNeg) = r ∧ I = I' ∧ L = L' ∧ P = P') ⟨rfl, rfl, rfl, rfl⟩) (fun v1 I2 L2 P2 nx1 q11 => ?_)
  obtain ⟨rfl, r10, rfl, rfl, rfl, rfl, rfl⟩ := q11
  refine z_icmp_ge (tgt := 105) dX1_scan_34 (by decide) (fun q12 => ?_) (fun q12 => ?_)
  · have hv := hv.1 q12
    refine z_iinc (v2 := x5 + 1) (lv2 := [some (.ref 96), some (.ref p1), some (.ref 90), some (.int p3), some (.int x4), some (.int (x5 + 1)), some (.int x6), none]) dX1_scan_105 rfl (by rfl) (by decide) rfl rfl ?_
    refine z_goto (tgt := 16) dX1_scan_108 (by decide) ?_
    exact z_sub (by exact ⟨rfl, ⟨rfl, ⟨rfl, ⟨rfl, ⟨rfl, ⟨rfl, trivial⟩⟩⟩⟩⟩⟩) hv
  · have hv := hv.2 q12
    refine z_iload dX1_scan_37 rfl ?_
    refine z_bipush (v := 64) dX1_scan_39 (by decide) ?_
    refine z_icmp_ge (tgt := 105) dX1_scan_41 (by decide) (fun q13 => ?_) (fun q13 => ?_)
    · have hv := hv.1 q13
      refine z_iinc (v2 := x5 + 1) (lv2 := [some (.ref 96), some (.ref p1), some (.ref 90), some (.int p3), some (.int x4), some (.int (x5 + 1)), some (.int x6), none]) dX1_scan_105 rfl (by rfl) (by decide) rfl rfl ?_
      refine z_goto (tgt := 16) dX1_scan_108 (by decide) ?_
      exact z_sub (by exact ⟨rfl, ⟨rfl, ⟨rfl, ⟨rfl, ⟨rfl, ⟨rfl, trivial⟩⟩⟩⟩⟩⟩) hv
    · have hv := hv.2 q13
      refine z_aload_n dX1_scan_44 rfl ?_
      refine z_getP dX1_scan_45 zf_X1_15 zn_96 zo_96 (fun _ _ _ _ _ => rfl) (hP 96 0 97 zp_96_0) ?_
      refine z_iload dX1_scan_48 rfl ?_
      obtain ⟨h14, hv⟩ := hv
      obtain ⟨b15, h16, hv⟩ := hv
      refine z_aaload dX1_scan_50 zn_97 zh_97 (Or.inl rfl) h14 h16 ?_
      refine z_iload dX1_scan_51 rfl ?_
      obtain ⟨n18, h17, hv⟩ := hv
      obtain ⟨h19, hv⟩ := hv
      refine z_iaload dX1_scan_53 h17.1 h17.2 h19 ?_
      refine z_istore (lv2 := [some (.ref 96), some (.ref p1), some (.ref 90), some (.int p3), some (.int x4), some (.int x5), some (.int x6), some (.int (I b15 x6.toNatClampNeg))]) dX1_scan_54 (by decide) rfl rfl ?_
      refine z_iload dX1_scan_56 rfl ?_
      refine z_iconst (v := (-1)) dX1_scan_58 (by decide) ?_
      refine z_icmp_eq (tgt := 99) dX1_scan_59 (by decide) (fun q20 => ?_) (fun q20 => ?_)
      · have hv := hv.1 q20
        refine z_iinc (v2 := x6 + 1) (lv2 := [some (.ref 96), some (.ref p1), some (.ref 90), some (.int p3), some (.int x4), some (.int x5), some (.int (x6 + 1)), some (.int (I b15 x6.toNatClampNeg))]) dX1_scan_99 rfl (by rfl) (by decide) rfl rfl ?_
        refine z_goto (tgt := 28) dX1_scan_102 (by decide) ?_
        exact z_sub (by exact ⟨rfl, ⟨rfl, ⟨rfl, ⟨rfl, ⟨rfl, ⟨rfl, ⟨rfl, trivial⟩⟩⟩⟩⟩⟩⟩) hv
      · have hv := hv.2 q20
        refine z_aload_n dX1_scan_62 rfl ?_
        refine z_iload dX1_scan_63 rfl ?_
        refine z_iload_n dX1_scan_65 rfl ?_
        refine z_callV (As := [.int (I b15 x6.toNatClampNeg), .int p3]) (st := []) dX1_scan_66 zl_X1_110 zv_X7_agree (by decide) rfl zn_90 zo_90 rfl rfl (Nat.le_of_ble_eq_true rfl) ⟨Nat.le_refl _, Nat.le_refl _⟩ ⟨Nat.le_refl _, Nat.le_refl _⟩ hv (fun v1 I21 L22 P23 nx1 q24 => ?_)
        obtain ⟨rfl, r25, rfl, hv⟩ := q24
        refine z_if_eq (tgt := 99) dX1_scan_69 (by decide) (fun q26 => ?_) (fun q26 => ?_)
        · have hv := hv.1 q26
          refine z_iinc (v2 := x6 + 1) (lv2 := [some (.ref 96), some (.ref p1), some (.ref 90), some (.int p3), some (.int x4), some (.int x5), some (.int (x6 + 1)), some (.int (I b15 x6.toNatClampNeg))]) dX1_scan_99 rfl (by rfl) (by decide) rfl rfl ?_
          refine z_goto (tgt := 28) dX1_scan_102 (by decide) ?_
          exact z_sub (by exact ⟨rfl, ⟨rfl, ⟨rfl, ⟨rfl, ⟨rfl, ⟨rfl, ⟨rfl, trivial⟩⟩⟩⟩⟩⟩⟩) hv
        · have hv := hv.2 q26
          refine z_iinc (v2 := x4 + 1) (lv2 := [some (.ref 96), some (.ref p1), some (.ref 90), some (.int p3), some (.int (x4 + 1)), some (.int x5), some (.int x6), some (.int (I b15 x6.toNatClampNeg))]) dX1_scan_72 rfl (by rfl) (by decide) rfl rfl ?_
          refine z_aload_n dX1_scan_75 rfl ?_
          refine z_dup dX1_scan_76 rfl ?_
          refine z_getI dX1_scan_77 zf_X1_29 zn_96 zo_96 (fun _ _ _ _ _ => rfl) ?_
          refine z_iload dX1_scan_80 rfl ?_
          refine z_ior dX1_scan_82 ?_
          refine z_putI dX1_scan_83 zf_X1_29 zn_96 zo_96 (Or.inl rfl) (fun _ _ _ _ _ => rfl) rfl rfl (z_nmI (fun I27 e28 => ?_))
          have hv := hv I27 e28
          refine z_aload_n dX1_scan_86 rfl ?_
          refine z_dup dX1_scan_87 rfl ?_
          refine z_getI dX1_scan_88 zf_X1_33 zn_96 zo_96 (fun _ _ _ _ _ => rfl) ?_
          refine z_iload dX1_scan_91 rfl ?_
          refine z_iconst (v := (-1)) dX1_scan_93 (by decide) ?_
          refine z_ixor dX1_scan_94 ?_
          refine z_ior dX1_scan_95 ?_
          refine z_putI dX1_scan_96 zf_X1_33 zn_96 zo_96 (Or.inl rfl) (fun _ _ _ _ _ => rfl) rfl rfl (z_nmI (fun I29 e30 => ?_))
          have hv := hv I29 e30
          refine z_iinc (v2 := x6 + 1) (lv2 := [some (.ref 96), some (.ref p1), some (.ref 90), some (.int p3), some (.int (x4 + 1)), some (.int x5), some (.int (x6 + 1)), some (.int (I b15 x6.toNatClampNeg))]) dX1_scan_99 rfl (by rfl) (by decide) rfl rfl ?_
          refine z_goto (tgt := 28) dX1_scan_102 (by decide) ?_
          exact z_sub (by exact ⟨rfl, ⟨rfl, ⟨rfl, ⟨rfl, ⟨rfl, ⟨rfl, ⟨rfl, trivial⟩⟩⟩⟩⟩⟩⟩) hv
abbrev v_X1_scan_16 (d : Nat) (Q : zQt) (p1 : Nat) (p3 : Int32) (x4 : Int32) (x5 : Int32) (I : zI) (L : zL) (P : zP) : Prop :=
  (p1 < 205 ∧ (zsh p1).1 = 2) ∧
  (((I p1 4) < x5 →
    Q (some (.int x4)) I L P 205
  ) ∧ (¬ (I p1 4) < x5 →
    gw_X1_scan (d + 1) Q 28 [some (.ref 96), some (.ref p1), some (.ref 90), some (.int p3), some (.int x4), some (.int x5), some (.int 0), none] [] I L P
  ))
set_option maxRecDepth 20000 in
theorem g_X1_scan_16 {d : Nat} {Q : zQt} {p1 : Nat} {p3 : Int32} {x4 : Int32} {x5 : Int32} {I : zI} {L : zL} {P : zP} (hP : zPk P) (hv : v_X1_scan_16 d Q p1 p3 x4 x5 I L P) : gw_X1_scan (d + 1) Q 16 [some (.ref 96), some (.ref p1), some (.ref 90), some (.int p3), some (.int x4), some (.int x5), none, none] [] I L P := by
  unfold v_X1_scan_16 at hv
  refine z_iload dX1_scan_16 rfl ?_
  refine z_aload_n dX1_scan_18 rfl ?_
  obtain ⟨h5, hv⟩ := hv
  refine z_getI dX1_scan_19 zf_X1_58 h5.1 h5.2 (fun _ _ _ _ _ => rfl) ?_
  refine z_icmp_gt (tgt := 111) dX1_scan_22 (by decide) (fun q6 => ?_) (fun q6 => ?_)
  · have hv := hv.1 q6
    refine z_iload dX1_scan_111 rfl ?_
    exact z_ireturn dX1_scan_113 rfl rfl (Nat.le_refl _) (Nat.le_refl _) hv
  · have hv := hv.2 q6
    refine z_iconst (v := 0) dX1_scan_25 (by decide) ?_
    refine z_istore (lv2 := [some (.ref 96), some (.ref p1), some (.ref 90), some (.int p3), some (.int x4), some (.int x5), some (.int 0), none]) dX1_scan_26 (by decide) rfl rfl ?_
    exact hv
abbrev v_X1_scan (d : Nat) (Q : zQt) (p1 : Nat) (p3 : Int32) (I : zI) (L : zL) (P : zP) : Prop :=
  ∀ I1 : zI, I1 = zuI I 96 5 0 →
  ∀ I3 : zI, I3 = zuI I1 96 6 0 →
  gw_X1_scan (d + 1) Q 16 [some (.ref 96), some (.ref p1), some (.ref 90), some (.int p3), some (.int 0), some (.int 0), none, none] [] I3 L P
set_option maxRecDepth 20000 in
theorem g_X1_scan {d : Nat} {Q : zQt} {p1 : Nat} {p3 : Int32} {I : zI} {L : zL} {P : zP} (hP : zPk P) (hv : v_X1_scan d Q p1 p3 I L P) : zM zm_X1_scan (d + 1) 0 0 [.ref 96, .ref p1, .ref 90, .int p3] I L P 205 Q := by
  unfold v_X1_scan at hv
  refine zM_of (lv0 := [some (.ref 96), some (.ref p1), some (.ref 90), some (.int p3), none, none, none, none]) (by decide +kernel) (Nat.le_of_ble_eq_true rfl) rfl ?_
  refine z_iconst (v := 0) dX1_scan_0 (by decide) ?_
  refine z_istore (lv2 := [some (.ref 96), some (.ref p1), some (.ref 90), some (.int p3), some (.int 0), none, none, none]) dX1_scan_1 (by decide) rfl rfl ?_
  refine z_aload_n dX1_scan_3 rfl ?_
  refine z_iconst (v := 0) dX1_scan_4 (by decide) ?_
  refine z_putI dX1_scan_5 zf_X1_29 zn_96 zo_96 (Or.inl rfl) (fun _ _ _ _ _ => rfl) rfl rfl (z_nmI (fun I1 e2 => ?_))
  have hv := hv I1 e2
  refine z_aload_n dX1_scan_8 rfl ?_
  refine z_iconst (v := 0) dX1_scan_9 (by decide) ?_
  refine z_putI dX1_scan_10 zf_X1_33 zn_96 zo_96 (Or.inl rfl) (fun _ _ _ _ _ => rfl) rfl rfl (z_nmI (fun I3 e4 => ?_))
  have hv := hv I3 e4
  refine z_iconst (v := 0) dX1_scan_13 (by decide) ?_
  refine z_istore (lv2 := [some (.ref 96), some (.ref p1), some (.ref 90), some (.int p3), some (.int 0), some (.int 0), none, none]) dX1_scan_14 (by decide) rfl rfl ?_
  exact hv
/-- how many fit, of the sayings below n (the last: nothing) -/
noncomputable def gCt (M : zI) (k : Int32) : Nat → Nat
  | 0 => 0
  | n + 1 => gCt M k n + cP (fFi M (iS M n) k 12) (vN M)
/-- some that fits has the mark so -/
def gHs (M : zI) (k : Int32) (n p : Nat) (bb : Bool) : Prop := ∃ i, i < n ∧ ∃ w, w < vN M ∧ fFi M (iS M i) k 12 w ∧ w.testBit p = bb
theorem gCt_le (M : zI) (k : Int32) : ∀ n, gCt M k n ≤ n * vN M
  | 0 => by unfold gCt; omega
  | n + 1 => by
    have := gCt_le M k n
    have := cP_le (fFi M (iS M n) k 12) (vN M)
    unfold gCt
    rw [Nat.succ_mul]
    omega
theorem sp_X1_scan {d : Nat} {M I : zI} {L : zL} {P : zP} {t st : Nat} {b : Nat → Nat} {cd : Nat → Cd} {k : Int32} (hP : zPk P) (h6 : vNp M ≤ 6) (hns : vNs M ≤ 6) (hR : tR M I t st b cd) (hs : sgR M I) (hg : ∀ i, i ≤ vNs M → gN M I i (98 + i)) (hd : 2 ≤ d) {K : Int32 → zI → zL → zP → Prop}
    (kk : ∀ I', cFr [96] I I' → I' 96 4 = I 96 4 → (∀ p, p < 8 → (ib (I' 96 5) p ↔ gHs M k (vNs M + 1) p true)) → (∀ p, p < 8 → (ib (I' 96 6) p ↔ gHs M k (vNs M + 1) p false)) → K (nI (gCt M k (vNs M + 1))) I' L P) : zMi zm_X1_scan d [.ref 96, .ref t, .ref 90, .int k] I L P K := by
  obtain ⟨d, rfl⟩ : ∃ e, d = e + 1 := ⟨d - 1, by omega⟩
  have hil := hR.1.1
  have hil2 := hil
  unfold il at hil2
  have b1 := (il_P hil hP).1
  have hN := vN_64 h6
  have h0 := hR.1.2.2
  have h97 : ∀ i, i < 7 → zst 97 i = some (98 + i) ∧ (98 + i < 205 ∧ zsh (98 + i) = (100, 64)) := by decide +kernel
  have n1 : ∀ f : Nat → Nat, (∀ p, f p < 16) → ¬ nI (wd f (vNp M)) = -1 := by
    intro f hf z
    have h1 := wd_lt hf (vNp M)
    have h2 : 2 ^ (4 * vNp M) ≤ 2 ^ 24 := p2m (by omega)
    have := congrArg Int32.toInt z
    rw [nI_toInt (by omega)] at this
    have h1 : (-1 : Int32).toInt = -1 := by decide
    omega
  -- what holds of the marks when the sayings below i, and of i the worlds below w, are done
  have outer : ∀ m i J, i + m = vNs M + 1 → cFr [96] I J → J 96 4 = I 96 4 → (∀ p, p < 8 → (ib (J 96 5) p ↔ gHs M k i p true)) → (∀ p, p < 8 → (ib (J 96 6) p ↔ gHs M k i p false)) → gw_X1_scan (d + 1) (fun v I' L' P' nx' => nx' = 205 ∧ ∃ r, v = some (.int r) ∧ K r I' L' P') 16 [some (.ref 96), some (.ref t), some (.ref 90), some (.int k), some (.int (nI (gCt M k i))), some (.int (nI i)), none, none] [] J L P := by
    intro m
    induction m with
    | zero =>
      intro i J hi hf h4 h5 h56
      have : i = vNs M + 1 := by omega
      subst this
      have e4 : J t 4 = nI (vNs M) := by rw [hf t (by simp only [List.mem_cons, List.not_mem_nil, or_false]; omega)]; exact hR.2.2.2.2.2.1.1
      exact g_X1_scan_16 hP ⟨b1, fun _ => qi (kk J hf h4 h5 h56), fun z => absurd (by rw [e4]; exact nI_lt (by omega) (by omega)) z⟩
    | succ m ih =>
      intro i J hi hf h4 h5 h56
      have e4 : J t 4 = nI (vNs M) := by rw [hf t (by simp only [List.mem_cons, List.not_mem_nil, or_false]; omega)]; exact hR.2.2.2.2.2.1.1
      obtain ⟨c1, c2⟩ := h97 i (by omega)
      refine g_X1_scan_16 hP ⟨b1, fun z => absurd z (by rw [e4]; exact nI_nlt (by omega) (by omega)), fun _ => ?_⟩
      have inner : ∀ m2 w J2, w + m2 = vN M → cFr [96] I J2 → J2 96 4 = I 96 4 → (∀ p, p < 8 → (ib (J2 96 5) p ↔ gHs M k i p true ∨ ∃ u, u < w ∧ fFi M (iS M i) k 12 u ∧ u.testBit p = true)) → (∀ p, p < 8 → (ib (J2 96 6) p ↔ gHs M k i p false ∨ ∃ u, u < w ∧ fFi M (iS M i) k 12 u ∧ u.testBit p = false)) → gw_X1_scan (d + 1) (fun v I' L' P' nx' => nx' = 205 ∧ ∃ r, v = some (.int r) ∧ K r I' L' P') 28 [some (.ref 96), some (.ref t), some (.ref 90), some (.int k), some (.int (nI (gCt M k i + cP (fFi M (iS M i) k 12) w))), some (.int (nI i)), some (.int (nI w)), none] [] J2 L P := by
        intro m2
        induction m2 with
        | zero =>
          intro w J2 hw hf2 h42 h52 h62
          have : w = vN M := by omega
          subst this
          have e0 : J2 t 0 = nI (vNp M) := by rw [hf2 t (by simp only [List.mem_cons, List.not_mem_nil, or_false]; omega)]; exact h0
          refine g_X1_scan_28 hP ⟨b1, hil, by rw [e0]; exact nx_in (by omega) (by decide), ?_⟩
          rw [e0, nI_cl (by omega), nI_1]
          refine ⟨fun _ => ?_, fun z => absurd (nI_le (Nat.le_refl _) (by have : 2 ^ vNp M ≤ 64 := hN; omega)) z⟩
          refine ih (i + 1) J2 (by omega) hf2 h42 (fun p hp => ?_) (fun p hp => ?_)
          · rw [h52 p hp]
            constructor
            · rintro (⟨i', z1, z2⟩ | ⟨u, z1, z2, z3⟩)
              · exact ⟨i', by omega, z2⟩
              · exact ⟨i, by omega, u, z1, z2, z3⟩
            · rintro ⟨i', z1, u, z2, z3, z4⟩
              rcases Nat.lt_succ_iff_lt_or_eq.mp z1 with y | y
              · exact Or.inl ⟨i', y, u, z2, z3, z4⟩
              · subst y; exact Or.inr ⟨u, z2, z3, z4⟩
          · rw [h62 p hp]
            constructor
            · rintro (⟨i', z1, z2⟩ | ⟨u, z1, z2, z3⟩)
              · exact ⟨i', by omega, z2⟩
              · exact ⟨i, by omega, u, z1, z2, z3⟩
            · rintro ⟨i', z1, u, z2, z3, z4⟩
              rcases Nat.lt_succ_iff_lt_or_eq.mp z1 with y | y
              · exact Or.inl ⟨i', y, u, z2, z3, z4⟩
              · subst y; exact Or.inr ⟨u, z2, z3, z4⟩
        | succ m2 ih2 =>
          intro w J2 hw hf2 h42 h52 h62
          have e0 : J2 t 0 = nI (vNp M) := by rw [hf2 t (by simp only [List.mem_cons, List.not_mem_nil, or_false]; omega)]; exact h0
          have hw2 : w < vN M := by omega
          have cw : (nI w).toNatClampNeg = w := nI_cl (by omega)
          have ci : (nI i).toNatClampNeg = i := nI_cl (by omega)
          obtain ⟨gy, gn⟩ := hg i (by omega) w hw2
          have ec : J2 (98 + i) = I (98 + i) := hf2 (98 + i) (by simp only [List.mem_cons, List.not_mem_nil, or_false]; omega)
          have nofit : ¬ fFi M (iS M i) k 12 w → gw_X1_scan (d + 1) (fun v I' L' P' nx' => nx' = 205 ∧ ∃ r, v = some (.int r) ∧ K r I' L' P') 28 [some (.ref 96), some (.ref t), some (.ref 90), some (.int k), some (.int (nI (gCt M k i + cP (fFi M (iS M i) k 12) w))), some (.int (nI i)), some (.int (nI w + 1)), none] [] J2 L P := by
            intro hno
            rw [nI_1]
            have := ih2 (w + 1) J2 (by omega) hf2 h42 (fun p hp => ?_) (fun p hp => ?_)
            · rw [cP_f hno] at this; exact this
            · rw [h52 p hp]
              refine or_congr Iff.rfl ⟨fun ⟨u, z1, z2⟩ => ⟨u, by omega, z2⟩, fun ⟨u, z1, z2⟩ => ⟨u, ?_, z2⟩⟩
              by_cases e : u = w
              · subst e; exact absurd z2.1 hno
              · omega
            · rw [h62 p hp]
              refine or_congr Iff.rfl ⟨fun ⟨u, z1, z2⟩ => ⟨u, by omega, z2⟩, fun ⟨u, z1, z2⟩ => ⟨u, ?_, z2⟩⟩
              by_cases e : u = w
              · subst e; exact absurd z2.1 hno
              · omega
          refine g_X1_scan_28 hP ⟨b1, hil, by rw [e0]; exact nx_in (by omega) (by decide), ?_⟩
          rw [e0, nI_cl (show vNp M < 2 ^ 31 by omega)]
          refine ⟨fun z => absurd z (nI_ge hw2 (by have : 2 ^ vNp M ≤ 64 := hN; omega)), fun _ => ⟨fun z => absurd z (by rw [show (64 : Int32) = nI 64 from rfl]; exact nI_ge (by omega) (by decide)), fun _ => ⟨nx_in (by omega) (by decide), 98 + i, by rw [ci]; exact hP _ _ _ c1, 64, c2, nx_in (by omega) (by decide), ?_⟩⟩⟩
          rw [cw, ec]
          by_cases hin : iS M i w
          · have e1 := gy hin
            rw [e1]
            have hf16 : ∀ p, (fun p => nbF M (iS M i) w p 12) p < 16 := fun p => by have := nbF_le (M := M) (inn := iS M i) w p 12; show nbF M (iS M i) w p 12 < 16; omega
            refine ⟨fun z => absurd z (n1 _ hf16), fun _ => sp_X7_agree hP h6 (sgR_c hs (fun a h1 h2 => hf2 a (by simp only [List.mem_cons, List.not_mem_nil, or_false]; omega))) hin (by omega) ⟨fun z => nofit (bP_0.mp z), fun z J3 e3 J4 e4 => ?_⟩⟩
            rw [bP_n] at z
            have e5 : J3 96 5 = (J2 96 5 ||| nI w : Int32) := by rw [e3, zuI_v]
            have e6 : J3 96 6 = J2 96 6 := by rw [e3, zuI_o (by decide)]
            rw [e6] at e4
            have v5 : J4 96 5 = (J2 96 5 ||| nI w : Int32) := by rw [e4, zuI_o (by decide)]; exact e5
            have v6 : J4 96 6 = (J2 96 6 ||| (nI w ^^^ (-1) : Int32) : Int32) := by rw [e4, zuI_v]
            have v4 : J4 96 4 = I 96 4 := by rw [e4, zuI_o (by decide), e3, zuI_o (by decide)]; exact h42
            have hf4 : cFr [96] I J4 := by rw [e4, e3]; exact cFr_c (cFr_c hf2 (by simp)) (by simp)
            rw [nI_1, nI_1]
            have := ih2 (w + 1) J4 (by omega) hf4 v4 (fun p hp => ?_) (fun p hp => ?_)
            · rw [cP_t z, ← Nat.add_assoc] at this; exact this
            · rw [v5, ib_or _ _ (by omega), h52 p hp, ib_nI (by omega), or_assoc]
              refine or_congr Iff.rfl ⟨fun y => y.elim (fun ⟨u, z1, z2⟩ => ⟨u, by omega, z2⟩) (fun y => ⟨w, by omega, z, y⟩), fun ⟨u, z1, z2⟩ => ?_⟩
              by_cases e : u = w
              · subst e; exact Or.inr z2.2
              · exact Or.inl ⟨u, by omega, z2⟩
            · rw [v6, ib_or _ _ (by omega), h62 p hp, ib_not (by omega), or_assoc]
              refine or_congr Iff.rfl ⟨fun y => y.elim (fun ⟨u, z1, z2⟩ => ⟨u, by omega, z2⟩) (fun y => ⟨w, by omega, z, by simpa using y⟩), fun ⟨u, z1, z2⟩ => ?_⟩
              by_cases e : u = w
              · subst e; exact Or.inr (by rw [z2.2]; decide)
              · exact Or.inl ⟨u, by omega, z2⟩
          · rw [gn hin]
            exact ⟨fun _ => nofit (fun z => hin z.1), fun z => absurd rfl z⟩
      have := inner (vN M) 0 J (by omega) hf h4 (fun p hp => ?_) (fun p hp => ?_)
      · exact this
      · rw [h5 p hp]
        exact ⟨fun z => Or.inl z, fun z => z.elim id (fun ⟨u, hu, _⟩ => absurd hu (Nat.not_lt_zero u))⟩
      · rw [h56 p hp]
        exact ⟨fun z => Or.inl z, fun z => z.elim id (fun ⟨u, hu, _⟩ => absurd hu (Nat.not_lt_zero u))⟩
  refine g_X1_scan hP (fun I1 e1 I2 e2 => ?_)
  have nn : ∀ p bb, ¬ gHs M k 0 p bb := fun p bb ⟨i, hi, _⟩ => absurd hi (Nat.not_lt_zero i)
  subst e2
  subst e1
  refine outer (vNs M + 1) 0 _ (by omega) (cFr_c (cFr_c (cFr_rf _ _) (by simp)) (by simp)) (by rw [zuI_o (by decide), zuI_o (by decide)]) (fun p hp => ?_) (fun p hp => ?_)
  · rw [zuI_o (by decide), zuI_v]
    exact ⟨fun z => absurd z (ib_0 (by omega)), fun z => absurd z (nn _ _)⟩
  · rw [zuI_v]
    exact ⟨fun z => absurd z (ib_0 (by omega)), fun z => absurd z (nn _ _)⟩
