/-! ===== the model: who sees what, what is like ===== -/
def vSee (I : zI) (p : Nat) : Nat := (I 168 (8 * vB I + p)).toNatClampNeg % vN I
def vNw (I : zI) : Nat := (I 160 38).toNatClampNeg
def vWt (I : zI) (k : Nat) : Nat := (I 182 k).toNatClampNeg
def vLike (I : zI) (p a b : Nat) : Prop := (a ^^^ b) &&& vSee I p = 0 ∧ ∀ k, k < vNw I → (vWt I k).testBit p = true → I 181 (256 * k + a) = I 181 (256 * k + b)
/-- whom each sees is told by bits -/
def MS (I : zI) : Prop := ∀ p, p < vNp I → ∃ m, m < 256 ∧ I 168 (8 * vB I + p) = nI m
/-- the whispers -/
def MW (I : zI) : Prop := vNw I ≤ 8 ∧ I 160 38 = nI (vNw I) ∧ ∀ k, k < vNw I → vWt I k < 256 ∧ I 182 k = nI (vWt I k)
abbrev gw_X12_seesOf (d : Nat) (Q : zQt) (pc : Nat) (lv : zV) (st : List Value) (I : zI) (L : zL) (P : zP) : Prop := zW zm_X12_seesOf (zRm d 0 0) 0 0 Q pc lv st I L P 205 0 0
abbrev v_X12_seesOf (d : Nat) (Q : zQt) (p1 : Int32) (I : zI) (L : zL) (P : zP) : Prop :=
  vp_in (((8 : Int32) * (I 160 28)) + p1) 16 ∧
  MB I ∧
  Q (some (.int ((I 168 (((8 : Int32) * (I 160 28)) + p1).toNatClampNeg) &&& ((nI (vN I)) - 1) : Int32))) I L P 205
set_option maxRecDepth 20000 in
theorem g_X12_seesOf {d : Nat} {Q : zQt} {p1 : Int32} {I : zI} {L : zL} {P : zP} (hP : zPk P) (hd : 1 ≤ d) (hv : v_X12_seesOf d Q p1 I L P) : zM zm_X12_seesOf (d + 1) 0 0 [.ref 160, .int p1] I L P 205 Q := by
  unfold v_X12_seesOf at hv
  refine zM_of (lv0 := [some (.ref 160), some (.int p1)]) (by decide +kernel) (Nat.le_of_ble_eq_true rfl) rfl ?_
  refine z_aload_n dX12_seesOf_0 rfl ?_
  refine z_getP dX12_seesOf_1 zf_X12_36 zn_160 zo_160 (fun _ _ _ _ _ => rfl) (hP 160 16 168 zp_160_16) ?_
  refine z_bipush (v := 8) dX12_seesOf_4 (by decide) ?_
  refine z_aload_n dX12_seesOf_6 rfl ?_
  refine z_getI dX12_seesOf_7 zf_X12_261 zn_160 zo_160 (fun _ _ _ _ _ => rfl) ?_
  refine z_imul dX12_seesOf_10 ?_
  refine z_iload_n dX12_seesOf_11 rfl ?_
  refine z_iadd dX12_seesOf_12 ?_
  obtain ⟨h1, hv⟩ := hv
  refine z_iaload dX12_seesOf_13 zn_168 zh_168 h1 ?_
  refine z_aload_n dX12_seesOf_14 rfl ?_
  obtain ⟨h2, hv⟩ := hv
  refine z_callV (As := []) (st := [.int (I 168 (((8 : Int32) * (I 160 28)) + p1).toNatClampNeg)]) dX12_seesOf_15 zl_X12_346 zv_X12_worldMany (by decide) rfl zn_160 zo_160 rfl rfl (Nat.le_of_ble_eq_true rfl) ⟨Nat.le_refl _, Nat.le_refl _⟩ ⟨Nat.le_refl _, Nat.le_refl _⟩ (sp_X12_worldMany hP h2 (by omega) (K := fun r I' L' P' => nI (vN I) = r ∧ I = I' ∧ L = L' ∧ P = P') ⟨rfl, rfl, rfl, rfl⟩) (fun v1 I2 L2 P2 nx1 q4 => ?_)
  obtain ⟨rfl, r3, rfl, rfl, rfl, rfl, rfl⟩ := q4
  refine z_iconst (v := 1) dX12_seesOf_18 (by decide) ?_
  refine z_isub dX12_seesOf_19 ?_
  refine z_iand dX12_seesOf_20 ?_
  exact z_ireturn dX12_seesOf_21 rfl rfl (Nat.le_refl _) (Nat.le_refl _) hv
theorem sp_X12_seesOf {d : Nat} {I : zI} {L : zL} {P : zP} {p : Nat} (hP : zPk P) (h : MB I) (hs : MS I) (hp : p < vNp I) (hd : 2 ≤ d) {K : Int32 → zI → zL → zP → Prop} (k : K (nI (vSee I p)) I L P) : zMi zm_X12_seesOf d [.ref 160, .int (nI p)] I L P K := by
  obtain ⟨d, rfl⟩ : ∃ e, d = e + 1 := ⟨d - 1, by omega⟩
  have hb := h.1.1
  have hn := h.2.1
  have hN := vN_le h
  have e1 : ((8 : Int32) * (I 160 28)) + nI p = nI (8 * vB I + p) := by
    rw [h.1.2, show (8 : Int32) = nI 8 from rfl, pk_mul, nI_add]
  obtain ⟨m, hm, e2⟩ := hs p hp
  refine g_X12_seesOf hP (by omega) ⟨?_, h, qi ?_⟩
  · rw [e1]
    exact nx_in (by omega) (by decide)
  · rw [e1, nI_cl (by omega), e2, show (1 : Int32) = nI 1 from rfl, pk_sub (vN_pos I)]
    have : nI m &&& nI (vN I - 1) = nI (m % vN I) := nx_mask m (vNp I)
    rw [this]
    unfold vSee at k
    rw [e2, nI_cl (by omega)] at k
    exact k
abbrev gw_X12_areLike (d : Nat) (Q : zQt) (pc : Nat) (lv : zV) (st : List Value) (I : zI) (L : zL) (P : zP) : Prop := zW zm_X12_areLike (zRm d 0 0) 0 0 Q pc lv st I L P 205 0 0
abbrev v_X12_areLike_17 (d : Nat) (Q : zQt) (p1 : Int32) (p2 : Int32) (p3 : Int32) (x4 : Int32) (I : zI) (L : zL) (P : zP) : Prop :=
  (((I 160 38) ≤ x4 →
    Q (some (.int 1)) I L P 205
  ) ∧ (¬ (I 160 38) ≤ x4 →
    vp_in x4 8 ∧
    ((¬ (((I 182 x4.toNatClampNeg) >>> (p1 &&& 31) : Int32) &&& 1 : Int32) = 1 →
      gw_X12_areLike (d + 1) Q 17 [some (.ref 160), some (.int p1), some (.int p2), some (.int p3), some (.int (x4 + 1))] [] I L P
    ) ∧ ((((I 182 x4.toNatClampNeg) >>> (p1 &&& 31) : Int32) &&& 1 : Int32) = 1 →
      vp_in (((256 : Int32) * x4) + p2) 2048 ∧
      vp_in (((256 : Int32) * x4) + p3) 2048 ∧
      (((I 181 (((256 : Int32) * x4) + p2).toNatClampNeg) = (I 181 (((256 : Int32) * x4) + p3).toNatClampNeg) →
        gw_X12_areLike (d + 1) Q 17 [some (.ref 160), some (.int p1), some (.int p2), some (.int p3), some (.int (x4 + 1))] [] I L P
      ) ∧ (¬ (I 181 (((256 : Int32) * x4) + p2).toNatClampNeg) = (I 181 (((256 : Int32) * x4) + p3).toNatClampNeg) →
        Q (some (.int 0)) I L P 205
      ))
    ))
  ))
set_option maxRecDepth 20000 in
theorem g_X12_areLike_17 {d : Nat} {Q : zQt} {p1 : Int32} {p2 : Int32} {p3 : Int32} {x4 : Int32} {I : zI} {L : zL} {P : zP} (hP : zPk P) (hv : v_X12_areLike_17 d Q p1 p2 p3 x4 I L P) : gw_X12_areLike (d + 1) Q 17 [some (.ref 160), some (.int p1), some (.int p2), some (.int p3), some (.int x4)] [] I L P := by
  unfold v_X12_areLike_17 at hv
  refine z_iload dX12_areLike_17 rfl ?_
  refine z_aload_n dX12_areLike_19 rfl ?_
  refine z_getI dX12_areLike_20 zf_X12_353 zn_160 zo_160 (fun _ _ _ _ _ => rfl) ?_
  refine z_icmp_ge (tgt := 78) dX12_areLike_23 (by decide) (fun q7 => ?_) (fun q7 => ?_)
  · have hv := hv.1 q7
    refine z_iconst (v := 1) dX12_areLike_78 (by decide) ?_
    exact z_ireturn dX12_areLike_79 rfl (by decide) (Nat.le_refl _) (Nat.le_refl _) hv
  · have hv := hv.2 q7
    refine z_aload_n dX12_areLike_26 rfl ?_
    refine z_getP dX12_areLike_27 zf_X12_80 zn_160 zo_160 (fun _ _ _ _ _ => rfl) (hP 160 37 182 zp_160_37) ?_
    refine z_iload dX12_areLike_30 rfl ?_
    obtain ⟨h8, hv⟩ := hv
    refine z_iaload dX12_areLike_32 zn_182 zh_182 h8 ?_
    refine z_iload_n dX12_areLike_33 rfl ?_
    refine z_ishr dX12_areLike_34 ?_
    refine z_iconst (v := 1) dX12_areLike_35 (by decide) ?_
    refine z_iand dX12_areLike_36 ?_
    refine z_iconst (v := 1) dX12_areLike_37 (by decide) ?_
    refine z_icmp_ne (tgt := 72) dX12_areLike_38 (by decide) (fun q9 => ?_) (fun q9 => ?_)
    · have hv := hv.1 q9
      refine z_iinc (v2 := x4 + 1) (lv2 := [some (.ref 160), some (.int p1), some (.int p2), some (.int p3), some (.int (x4 + 1))]) dX12_areLike_72 rfl (by rfl) (by decide) rfl rfl ?_
      refine z_goto (tgt := 17) dX12_areLike_75 (by decide) ?_
      exact hv
    · have hv := hv.2 q9
      refine z_aload_n dX12_areLike_41 rfl ?_
      refine z_getP dX12_areLike_42 zf_X12_77 zn_160 zo_160 (fun _ _ _ _ _ => rfl) (hP 160 36 181 zp_160_36) ?_
      refine z_sipush (v := 256) dX12_areLike_45 (by decide) ?_
      refine z_iload dX12_areLike_48 rfl ?_
      refine z_imul dX12_areLike_50 ?_
      refine z_iload_n dX12_areLike_51 rfl ?_
      refine z_iadd dX12_areLike_52 ?_
      obtain ⟨h10, hv⟩ := hv
      refine z_zaload dX12_areLike_53 zn_181 zh_181 h10 ?_
      refine z_aload_n dX12_areLike_54 rfl ?_
      refine z_getP dX12_areLike_55 zf_X12_77 zn_160 zo_160 (fun _ _ _ _ _ => rfl) (hP 160 36 181 zp_160_36) ?_
      refine z_sipush (v := 256) dX12_areLike_58 (by decide) ?_
      refine z_iload dX12_areLike_61 rfl ?_
      refine z_imul dX12_areLike_63 ?_
      refine z_iload_n dX12_areLike_64 rfl ?_
      refine z_iadd dX12_areLike_65 ?_
      obtain ⟨h11, hv⟩ := hv
      refine z_zaload dX12_areLike_66 zn_181 zh_181 h11 ?_
      refine z_icmp_eq (tgt := 72) dX12_areLike_67 (by decide) (fun q12 => ?_) (fun q12 => ?_)
      · have hv := hv.1 q12
        refine z_iinc (v2 := x4 + 1) (lv2 := [some (.ref 160), some (.int p1), some (.int p2), some (.int p3), some (.int (x4 + 1))]) dX12_areLike_72 rfl (by rfl) (by decide) rfl rfl ?_
        refine z_goto (tgt := 17) dX12_areLike_75 (by decide) ?_
        exact hv
      · have hv := hv.2 q12
        refine z_iconst (v := 0) dX12_areLike_70 (by decide) ?_
        exact z_ireturn dX12_areLike_71 rfl (by decide) (Nat.le_refl _) (Nat.le_refl _) hv
abbrev v_X12_areLike (d : Nat) (Q : zQt) (p1 : Int32) (p2 : Int32) (p3 : Int32) (I : zI) (L : zL) (P : zP) : Prop :=
  zMi zm_X12_seesOf d [.ref 160, .int p1] I L P (fun r5 I1 L2 P3 =>
    ((((p2 ^^^ p3 : Int32) &&& r5 : Int32) = 0 →
      gw_X12_areLike (d + 1) Q 17 [some (.ref 160), some (.int p1), some (.int p2), some (.int p3), some (.int 0)] [] I1 L2 P3
    ) ∧ (¬ ((p2 ^^^ p3 : Int32) &&& r5 : Int32) = 0 →
      Q (some (.int 0)) I1 L2 P3 205
    ))
  )
set_option maxRecDepth 20000 in
theorem g_X12_areLike {d : Nat} {Q : zQt} {p1 : Int32} {p2 : Int32} {p3 : Int32} {I : zI} {L : zL} {P : zP} (hP : zPk P) (hv : v_X12_areLike d Q p1 p2 p3 I L P) : zM zm_X12_areLike (d + 1) 0 0 [.ref 160, .int p1, .int p2, .int p3] I L P 205 Q := by
  unfold v_X12_areLike at hv
  refine zM_of (lv0 := [some (.ref 160), some (.int p1), some (.int p2), some (.int p3), none]) (by decide +kernel) (Nat.le_of_ble_eq_true rfl) rfl ?_
  refine z_iload_n dX12_areLike_0 rfl ?_
  refine z_iload_n dX12_areLike_1 rfl ?_
  refine z_ixor dX12_areLike_2 ?_
  refine z_aload_n dX12_areLike_3 rfl ?_
  refine z_iload_n dX12_areLike_4 rfl ?_
  refine z_callV (As := [.int p1]) (st := [.int (p2 ^^^ p3 : Int32)]) dX12_areLike_5 zl_X12_362 zv_X12_seesOf (by decide) rfl zn_160 zo_160 rfl rfl (Nat.le_of_ble_eq_true rfl) ⟨Nat.le_refl _, Nat.le_refl _⟩ ⟨Nat.le_refl _, Nat.le_refl _⟩ hv (fun v1 I1 L2 P3 nx1 q4 => ?_)
  obtain ⟨rfl, r5, rfl, hv⟩ := q4
  refine z_iand dX12_areLike_8 ?_
  refine z_if_eq (tgt := 14) dX12_areLike_9 (by decide) (fun q6 => ?_) (fun q6 => ?_)
  · have hv := hv.1 q6
    refine z_iconst (v := 0) dX12_areLike_14 (by decide) ?_
    refine z_istore (lv2 := [some (.ref 160), some (.int p1), some (.int p2), some (.int p3), some (.int 0)]) dX12_areLike_15 (by decide) rfl rfl ?_
    exact hv
  · have hv := hv.2 q6
    refine z_iconst (v := 0) dX12_areLike_12 (by decide) ?_
    exact z_ireturn dX12_areLike_13 rfl (by decide) (Nat.le_refl _) (Nat.le_refl _) hv
set_option maxHeartbeats 1000000 in
theorem lp_X12_areLike {d : Nat} {Q : zQt} {I : zI} {L : zL} {P : zP} {p a b : Nat} (hP : zPk P) (hw : MW I) (hp : p < 8) (ha : a < 256) (hb : b < 256) (h0 : (a ^^^ b) &&& vSee I p = 0) (k : Q (some (.int (bP (vLike I p a b)))) I L P 205) :
    ∀ n i, i + n = vNw I → (∀ j, j < i → (vWt I j).testBit p = true → I 181 (256 * j + a) = I 181 (256 * j + b)) →
      gw_X12_areLike (d + 1) Q 17 [some (.ref 160), some (.int (nI p)), some (.int (nI a)), some (.int (nI b)), some (.int (nI i))] [] I L P := by
  obtain ⟨w1, w2, w3⟩ := hw
  intro n
  induction n with
  | zero =>
    intro i hi hj
    refine g_X12_areLike_17 hP ⟨fun _ => ?_, fun q => absurd ?_ q⟩
    · rwa [bP_t ⟨h0, fun j hj2 => hj j (by omega)⟩] at k
    · rw [w2]
      exact nI_le (by omega) (by omega)
  | succ n ih =>
    intro i hi hj
    obtain ⟨t1, t2⟩ := w3 i (by omega)
    have nx : (nI i + 1 : Int32) = nI (i + 1) := nI_1 i
    have ea : ((256 : Int32) * nI i) + nI a = nI (256 * i + a) := by rw [show (256 : Int32) = nI 256 from rfl, pk_mul, nI_add]
    have eb : ((256 : Int32) * nI i) + nI b = nI (256 * i + b) := by rw [show (256 : Int32) = nI 256 from rfl, pk_mul, nI_add]
    refine g_X12_areLike_17 hP ⟨fun q => absurd q ?_, fun _ => ⟨nx_in (by omega) (by decide), ?_, ?_⟩⟩
    · rw [w2]
      exact nI_ge (by omega) (by omega)
    · intro q
      rw [nI_cl (by omega), t2, nx_bit (by omega) (by omega)] at q
      rw [nx]
      refine ih (i + 1) (by omega) (fun j hj1 hj2 => ?_)
      rcases Nat.lt_succ_iff_lt_or_eq.mp hj1 with h | h
      · exact hj j h hj2
      · subst h
        exact absurd (bP_t hj2) q
    · intro q
      rw [nI_cl (by omega), t2, nx_bit (by omega) (by omega), bP_1] at q
      refine ⟨by rw [ea]; exact nx_in (by omega) (by decide), by rw [eb]; exact nx_in (by omega) (by decide), fun q2 => ?_, fun q2 => ?_⟩
      · rw [ea, eb, nI_cl (by omega), nI_cl (by omega)] at q2
        rw [nx]
        refine ih (i + 1) (by omega) (fun j hj1 hj2 => ?_)
        rcases Nat.lt_succ_iff_lt_or_eq.mp hj1 with h | h
        · exact hj j h hj2
        · subst h
          exact q2
      · rw [ea, eb, nI_cl (by omega), nI_cl (by omega)] at q2
        rwa [bP_f (fun h => q2 (h.2 i (by omega) q))] at k
theorem sp_X12_areLike {d : Nat} {I : zI} {L : zL} {P : zP} {p a b : Nat} (hP : zPk P) (h : MB I) (hs : MS I) (hw : MW I) (hp : p < vNp I) (ha : a < 256) (hb : b < 256) (hd : 3 ≤ d) {K : Int32 → zI → zL → zP → Prop} (k : K (bP (vLike I p a b)) I L P) : zMi zm_X12_areLike d [.ref 160, .int (nI p), .int (nI a), .int (nI b)] I L P K := by
  obtain ⟨d, rfl⟩ : ∃ e, d = e + 1 := ⟨d - 1, by omega⟩
  have hn := h.2.1
  have hN := vN_le h
  have hS : vSee I p < 256 := Nat.lt_of_lt_of_le (Nat.mod_lt _ (vN_pos I)) hN
  have hx : (a ^^^ b) &&& vSee I p < 256 := Nat.lt_of_le_of_lt Nat.and_le_right hS
  have e : ((nI a ^^^ nI b : Int32) &&& nI (vSee I p) : Int32) = nI ((a ^^^ b) &&& vSee I p) := by rw [nx_xor, nx_and]
  refine g_X12_areLike hP (sp_X12_seesOf hP h hs hp (by omega) ⟨fun q => ?_, fun q => qi ?_⟩)
  · rw [e, nI_zero (by omega)] at q
    exact lp_X12_areLike hP hw (by omega) ha hb q (qi k) (vNw I) 0 (by omega) (fun j hj => absurd hj (Nat.not_lt_zero j))
  · rw [e, nI_zero (by omega)] at q
    rwa [bP_f (fun h => q h.1)] at k
