/-! ===== the class: all tokens of a text ===== -/
section SCN
variable {d : Nat} {Q : zQt} {I0 : zI} {L0 : zL} {P : zP} {T : Nat → Int32} {n : Nat}
noncomputable def eS (T : Nat → Int32) (n : Nat) : Nat → Nat
  | 0 => 0
  | i + 1 => tE T n (eS T n i)
theorem eS_le : ∀ i, eS T n i ≤ n
  | 0 => Nat.zero_le _
  | i + 1 => (tE_le (eS_le i)).2
/-- a token in the tables -/
def tkE (T : Nat → Int32) (n : Nat) (I : zI) (L : zL) (i : Nat) : Prop := I 20 i = nI (tK T n (eS T n i)) ∧ I 21 i = nI (tA T n (eS T n i)) ∧ (256 ≤ tK T n (eS T n i) → tK T n (eS T n i) ≤ 273 → L 22 i = tV T n (eS T n i)) ∧ (tK T n (eS T n i) = 274 → L 22 i = (tN T n (eS T n i)).toInt64)
/-- the tables hold c tokens, and the last is the end or none -/
def tkR (T : Nat → Int32) (n : Nat) (I : zI) (L : zL) (c : Nat) : Prop := (I 18 5 = nI (c + 1) ∧ c < 1601) ∧ (∀ i, i < c + 1 → tkE T n I L i) ∧ (∀ i, i < c → tK T n (eS T n i) ≠ 275 ∧ tK T n (eS T n i) ≠ 276) ∧ (tK T n (eS T n c) = 275 ∨ tK T n (eS T n c) = 276)
theorem tkR_c {I I' : zI} {L L' : zL} {c : Nat} (h : tkR T n I L c) (e1 : I' 18 5 = I 18 5) (e2 : I' 20 = I 20) (e3 : I' 21 = I 21) (e4 : L' 22 = L 22) : tkR T n I' L' c := by
  unfold tkR tkE
  rw [e1, e2, e3, e4]
  exact h
abbrev gw_X9_scan (d : Nat) (Q : zQt) (pc : Nat) (lv : zV) (st : List Value) (I : zI) (L : zL) (P : zP) : Prop := zW zm_X9_scan (zRm d 0 0) 0 0 Q pc lv st I L P 205 0 0
abbrev v_X9_scan_14 (d : Nat) (Q : zQt) (x1 : Int32) (I : zI) (L : zL) (P : zP) : Prop :=
  ((1600 < (I 18 5) →
    Q none I L P 205
  ) ∧ (¬ 1600 < (I 18 5) →
    ((x1 = 275 →
      Q none I L P 205
    ) ∧ (¬ x1 = 275 →
      ((x1 = 276 →
        Q none I L P 205
      ) ∧ (¬ x1 = 276 →
        zMv zm_X9_skipBlanks d [.ref 18] I L P (fun I8 L9 P10 =>
          zPk P10 ∧
          vp_in (I8 18 5) 1601 ∧
          ∀ I16 : zI, I16 = zuI I8 21 (I8 18 5).toNatClampNeg (I8 18 6) →
          vp_in (I16 18 5) 1601 ∧
          ∀ L19 : zL, L19 = zuL L9 22 (I16 18 5).toNatClampNeg 0 →
          zMi zm_X9_take d [.ref 18] I16 L19 P10 (fun r24 I20 L21 P22 =>
            zPk P22 ∧
            vp_in (I20 18 5) 1601 ∧
            ∀ I28 : zI, I28 = zuI I20 20 (I20 18 5).toNatClampNeg r24 →
            ∀ I29 : zI, I29 = zuI I28 18 5 ((I28 18 5) + 1) →
            gw_X9_scan (d + 1) Q 14 [some (.ref 18), some (.int r24)] [] I29 L21 P22
          )
        )
      ))
    ))
  ))
set_option maxRecDepth 20000 in
theorem g_X9_scan_14 {d : Nat} {Q : zQt} {x1 : Int32} {I : zI} {L : zL} {P : zP} (hP : zPk P) (hv : v_X9_scan_14 d Q x1 I L P) : gw_X9_scan (d + 1) Q 14 [some (.ref 18), some (.int x1)] [] I L P := by
  unfold v_X9_scan_14 at hv
  refine z_aload_n dX9_scan_14 rfl ?_
  refine z_getI dX9_scan_15 zf_X9_29 zn_18 zo_18 (fun _ _ _ _ _ => rfl) ?_
  refine z_sipush (v := 1600) dX9_scan_18 (by decide) ?_
  refine z_icmp_gt (tgt := 93) dX9_scan_21 (by decide) (fun q5 => ?_) (fun q5 => ?_)
  · have hv := hv.1 q5
    exact z_return dX9_scan_93 rfl (Nat.le_refl _) (Nat.le_refl _) hv
  · have hv := hv.2 q5
    refine z_iload_n dX9_scan_24 rfl ?_
    refine z_sipush (v := 275) dX9_scan_25 (by decide) ?_
    refine z_icmp_eq (tgt := 93) dX9_scan_28 (by decide) (fun q6 => ?_) (fun q6 => ?_)
    · have hv := hv.1 q6
      exact z_return dX9_scan_93 rfl (Nat.le_refl _) (Nat.le_refl _) hv
    · have hv := hv.2 q6
      refine z_iload_n dX9_scan_31 rfl ?_
      refine z_sipush (v := 276) dX9_scan_32 (by decide) ?_
      refine z_icmp_eq (tgt := 93) dX9_scan_35 (by decide) (fun q7 => ?_) (fun q7 => ?_)
      · have hv := hv.1 q7
        exact z_return dX9_scan_93 rfl (Nat.le_refl _) (Nat.le_refl _) hv
      · have hv := hv.2 q7
        refine z_aload_n dX9_scan_38 rfl ?_
        refine z_callV (As := []) (st := []) dX9_scan_39 zl_X9_52 zv_X9_skipBlanks (by decide) rfl zn_18 zo_18 rfl rfl (Nat.le_of_ble_eq_true rfl) ⟨Nat.le_refl _, Nat.le_refl _⟩ ⟨Nat.le_refl _, Nat.le_refl _⟩ hv (fun v1 I8 L9 P10 nx1 q11 => ?_)
        obtain ⟨rfl, rfl, hv⟩ := q11
        refine z_aload_n dX9_scan_42 rfl ?_
        obtain ⟨h13, hv⟩ := hv
        refine z_getP dX9_scan_43 zf_X9_23 zn_18 zo_18 (fun _ _ _ _ _ => rfl) (h13 18 3 21 zp_18_3) ?_
        refine z_aload_n dX9_scan_46 rfl ?_
        refine z_getI dX9_scan_47 zf_X9_29 zn_18 zo_18 (fun _ _ _ _ _ => rfl) ?_
        refine z_aload_n dX9_scan_50 rfl ?_
        refine z_getI dX9_scan_51 zf_X9_33 zn_18 zo_18 (fun _ _ _ _ _ => rfl) ?_
        obtain ⟨h14, hv⟩ := hv
        refine z_iastore dX9_scan_54 zn_21 zh_21 h14 (z_nmI (fun I16 e15 => ?_))
        have hv := hv I16 e15
        refine z_aload_n dX9_scan_55 rfl ?_
        refine z_getP dX9_scan_56 zf_X9_26 zn_18 zo_18 (fun _ _ _ _ _ => rfl) (h13 18 4 22 zp_18_4) ?_
        refine z_aload_n dX9_scan_59 rfl ?_
        refine z_getI dX9_scan_60 zf_X9_29 zn_18 zo_18 (fun _ _ _ _ _ => rfl) ?_
        refine z_lconst (v := 0) dX9_scan_63 (by decide) ?_
        obtain ⟨h17, hv⟩ := hv
        refine z_lastore dX9_scan_64 zn_22 zh_22 h17 (z_nmL (fun L19 e18 => ?_))
        have hv := hv L19 e18
        refine z_aload_n dX9_scan_65 rfl ?_
        refine z_callV (As := []) (st := []) dX9_scan_66 zl_X9_55 zv_X9_take (by decide) rfl zn_18 zo_18 rfl rfl (Nat.le_of_ble_eq_true rfl) ⟨Nat.le_refl _, Nat.le_refl _⟩ ⟨Nat.le_refl _, Nat.le_refl _⟩ hv (fun v1 I20 L21 P22 nx1 q23 => ?_)
        obtain ⟨rfl, r24, rfl, hv⟩ := q23
        refine z_istore_n (lv2 := [some (.ref 18), some (.int r24)]) dX9_scan_69 (by decide) rfl rfl ?_
        refine z_aload_n dX9_scan_70 rfl ?_
        obtain ⟨h25, hv⟩ := hv
        refine z_getP dX9_scan_71 zf_X9_19 zn_18 zo_18 (fun _ _ _ _ _ => rfl) (h25 18 2 20 zp_18_2) ?_
        refine z_aload_n dX9_scan_74 rfl ?_
        refine z_getI dX9_scan_75 zf_X9_29 zn_18 zo_18 (fun _ _ _ _ _ => rfl) ?_
        refine z_iload_n dX9_scan_78 rfl ?_
        obtain ⟨h26, hv⟩ := hv
        refine z_iastore dX9_scan_79 zn_20 zh_20 h26 (z_nmI (fun I28 e27 => ?_))
        have hv := hv I28 e27
        refine z_aload_n dX9_scan_80 rfl ?_
        refine z_dup dX9_scan_81 rfl ?_
        refine z_getI dX9_scan_82 zf_X9_29 zn_18 zo_18 (fun _ _ _ _ _ => rfl) ?_
        refine z_iconst (v := 1) dX9_scan_85 (by decide) ?_
        refine z_iadd dX9_scan_86 ?_
        refine z_putI dX9_scan_87 zf_X9_29 zn_18 zo_18 (Or.inl rfl) (fun _ _ _ _ _ => rfl) rfl rfl (z_nmI (fun I29 e30 => ?_))
        have hv := hv I29 e30
        refine z_goto (tgt := 14) dX9_scan_90 (by decide) ?_
        exact hv
abbrev v_X9_scan (d : Nat) (Q : zQt)  (I : zI) (L : zL) (P : zP) : Prop :=
  ∀ I1 : zI, I1 = zuI I 18 5 0 →
  ∀ I3 : zI, I3 = zuI I1 18 6 0 →
  gw_X9_scan (d + 1) Q 14 [some (.ref 18), some (.int 273)] [] I3 L P
set_option maxRecDepth 20000 in
theorem g_X9_scan {d : Nat} {Q : zQt}  {I : zI} {L : zL} {P : zP} (hP : zPk P) (hv : v_X9_scan d Q  I L P) : zM zm_X9_scan (d + 1) 0 0 [.ref 18] I L P 205 Q := by
  unfold v_X9_scan at hv
  refine zM_of (lv0 := [some (.ref 18), none]) (by decide +kernel) (Nat.le_of_ble_eq_true rfl) rfl ?_
  refine z_aload_n dX9_scan_0 rfl ?_
  refine z_iconst (v := 0) dX9_scan_1 (by decide) ?_
  refine z_putI dX9_scan_2 zf_X9_29 zn_18 zo_18 (Or.inl rfl) (fun _ _ _ _ _ => rfl) rfl rfl (z_nmI (fun I1 e2 => ?_))
  have hv := hv I1 e2
  refine z_aload_n dX9_scan_5 rfl ?_
  refine z_iconst (v := 0) dX9_scan_6 (by decide) ?_
  refine z_putI dX9_scan_7 zf_X9_33 zn_18 zo_18 (Or.inl rfl) (fun _ _ _ _ _ => rfl) rfl rfl (z_nmI (fun I3 e4 => ?_))
  have hv := hv I3 e4
  refine z_sipush (v := 273) dX9_scan_10 (by decide) ?_
  refine z_istore_n (lv2 := [some (.ref 18), some (.int 273)]) dX9_scan_13 (by decide) rfl rfl ?_
  exact hv
theorem tK_lt (e : Nat) : tK T n e < 277 := by
  rcases tK_all (T := T) (n := n) (e := e) with ⟨x, h1, h2, -⟩ | h | h | h | h
  · have := (sg_cd h1).2.1; omega
  · rw [h]
    by_cases z : tV T n e ∈ wdL
    · have := wIx_t z; omega
    · rw [wIx_f z]; omega
  · omega
  · omega
  · omega
theorem lp_X9_scan (hP : zPk P) (hT : tpR I0 T n) (hw : wdR L0) (hd : 5 ≤ d)
    (kk : ∀ I L c, cFr [18, 20, 21] I0 I → (∀ x, x ≠ 22 → L x = L0 x) → tkR T n I L c → Q none I L P 205) :
    ∀ f c k I L, n + 1 - eS T n c = f → k < 277 → (k ≠ 275 ∧ k ≠ 276) → cFr [18, 20, 21] I0 I → (∀ x, x ≠ 22 → L x = L0 x) → I 18 5 = nI c → I 18 6 = nI (eS T n c) → c ≤ eS T n c → (∀ i, i < c → tkE T n I L i) → (∀ i, i < c → tK T n (eS T n i) ≠ 275 ∧ tK T n (eS T n i) ≠ 276) →
      gw_X9_scan (d + 1) Q 14 [some (.ref 18), some (.int (nI k))] [] I L P := by
  have hn := hT.1
  intro f
  induction f using Nat.strongRecOn with
  | ind f ih =>
    intro c k I L hm hk hk2 hf hL h5 h6 hc hE hN
    have he := eS_le (T := T) (n := n) c
    have n5 : ¬ nI k = 275 := fun z => hk2.1 ((nI_eq (b := 275) (by omega) (by decide)).mp z)
    have n6 : ¬ nI k = 276 := fun z => hk2.2 ((nI_eq (b := 276) (by omega) (by decide)).mp z)
    have hT1 : tpR I T n := tpR_c hT (hf 1 (by decide)) (hf 2 (by decide))
    have hw1 : wdR L := fun i hi => by rw [hL 19 (by decide)]; exact hw i hi
    refine g_X9_scan_14 hP ⟨fun q => absurd q (by rw [h5, show (1600 : Int32) = nI 1600 from rfl]; exact nI_nlt (by omega) (by decide)), fun _ => ⟨fun q => absurd q n5, fun _ => ⟨fun q => absurd q n6, fun _ => ?_⟩⟩⟩
    refine sp_X9_skipBlanks (T := T) (n := n) hP hT1 he h6 (by omega) (fun I1 f1 f2 => ?_)
    have h51 : I1 18 5 = nI c := by rw [f1.2 5 (by decide)]; exact h5
    refine ⟨hP, by rw [h51]; exact nx_in (by omega) (by decide), fun I2 e2 => ?_⟩
    rw [h51, nI_cl (by omega), f2] at e2
    have h52 : I2 18 5 = nI c := by rw [e2, zuI_ne (by decide)]; exact h51
    refine ⟨by rw [h52]; exact nx_in (by omega) (by decide), fun L2 l2 => ?_⟩
    rw [h52, nI_cl (by omega)] at l2
    have hT2 : tpR I2 T n := by
      refine tpR_c hT1 ?_ ?_
      · rw [e2, zuI_ne (by decide), f1.1 1 (by decide)]
      · rw [e2, zuI_ne (by decide), f1.1 2 (by decide)]
    have hx2 : ∀ x j, ¬ (x = 22 ∧ j = c) → L2 x j = L x j := by rw [l2]; exact zuL_x
    refine sp_X9_take (T := T) (n := n) (e := eS T n c) (c := c) hP hT2 (wdR_x hw1 hx2) he (by rw [e2, zuI_ne (by decide)]; exact f2) h52 (by omega) hd (fun I3 L3 f3 f4 f5 => ?_)
    have h53 : I3 18 5 = nI c := by rw [f3.2 5 (by decide)]; exact h52
    refine ⟨hP, by rw [h53]; exact nx_in (by omega) (by decide), fun I4 e4 I5 e5 => ?_⟩
    rw [h53, nI_cl (by omega)] at e4
    have h54 : I4 18 5 = nI c := by rw [e4, zuI_ne (by decide)]; exact h53
    rw [h54, nI_1] at e5
    have hx3 : ∀ x j, ¬ (x = 22 ∧ j = c) → L3 x j = L x j := fun x j h => (f5.1 x j h).trans (hx2 x j h)
    have hf5 : cFr [18, 20, 21] I0 I5 := by
      rw [e5, e4]
      refine cFr_c (cFr_c (cFr_tr hf (cFr_tr (cFr_wk f1.1 (by simp)) (cFr_tr ?_ (cFr_wk f3.1 (by simp))))) (by simp)) (by simp)
      rw [e2]
      exact cFr_c (cFr_rf _ _) (by simp)
    have v20 : ∀ i, I5 20 i = if i = c then nI (tK T n (eS T n c)) else I 20 i := by
      intro i
      rw [e5, zuI_ne (by decide), e4]
      by_cases z : i = c
      · rw [if_pos z, z, zuI_v]
      · rw [if_neg z, zuI_o z, f3.1 20 (by decide), e2, zuI_ne (by decide), f1.1 20 (by decide)]
    have v21 : ∀ i, I5 21 i = if i = c then nI (tA T n (eS T n c)) else I 21 i := by
      intro i
      rw [e5, zuI_ne (by decide), e4, zuI_ne (by decide), f3.1 21 (by decide), e2]
      by_cases z : i = c
      · rw [if_pos z, z, zuI_v]
      · rw [if_neg z, zuI_o z, f1.1 21 (by decide)]
    have hE5 : ∀ i, i < c + 1 → tkE T n I5 L3 i := by
      intro i hi
      rcases Nat.lt_succ_iff_lt_or_eq.mp hi with z | z
      · obtain ⟨g1, g2, g3, g4⟩ := hE i z
        unfold tkE
        rw [v20, v21, if_neg (by omega), if_neg (by omega), hx3 22 i (by omega)]
        exact ⟨g1, g2, g3, g4⟩
      · subst z
        unfold tkE
        rw [v20, v21, if_pos rfl, if_pos rfl]
        exact ⟨rfl, rfl, f5.2.1, f5.2.2⟩
    have hL5 : ∀ x, x ≠ 22 → L3 x = L0 x := fun x hx => by
      funext j
      rw [hx3 x j (fun z => hx z.1), hL x hx]
    have w5 : I5 18 5 = nI (c + 1) := by rw [e5, zuI_v]
    have w6 : I5 18 6 = nI (eS T n (c + 1)) := by rw [e5, zuI_o (by decide), e4, zuI_ne (by decide)]; exact f4
    have hkk := tK_lt (T := T) (n := n) (eS T n c)
    by_cases hend : tK T n (eS T n c) = 275 ∨ tK T n (eS T n c) = 276
    · have done := kk I5 L3 c hf5 hL5 ⟨⟨w5, by omega⟩, hE5, hN, hend⟩
      refine g_X9_scan_14 hP ⟨fun _ => done, fun _ => ⟨fun _ => done, fun z5 => ⟨fun _ => done, fun z6 => ?_⟩⟩⟩
      rcases hend with z | z
      · exact absurd (by rw [z]; rfl) z5
      · exact absurd (by rw [z]; rfl) z6
    · have hgt := tE_gt (T := T) he (fun z => hend (Or.inl z))
      have hgt : eS T n c < eS T n (c + 1) := hgt
      have hle2 := eS_le (T := T) (n := n) (c + 1)
      refine ih (n + 1 - eS T n (c + 1)) (by omega) (c + 1) _ I5 L3 rfl hkk ⟨fun z => hend (Or.inl z), fun z => hend (Or.inr z)⟩ hf5 hL5 w5 w6 (by omega) hE5 (fun i hi => ?_)
      rcases Nat.lt_succ_iff_lt_or_eq.mp hi with z | z
      · exact hN i z
      · subst z; exact ⟨fun z => hend (Or.inl z), fun z => hend (Or.inr z)⟩
theorem sp_X9_scan (hP : zPk P) (hT : tpR I0 T n) (hw : wdR L0) (hd : 6 ≤ d) {K : zI → zL → zP → Prop}
    (kk : ∀ I L c, cFr [18, 20, 21] I0 I → (∀ x, x ≠ 22 → L x = L0 x) → tkR T n I L c → K I L P) : zMv zm_X9_scan d [.ref 18] I0 L0 P K := by
  obtain ⟨d, rfl⟩ : ∃ e, d = e + 1 := ⟨d - 1, by omega⟩
  refine g_X9_scan hP (fun I1 e1 I2 e2 => ?_)
  refine lp_X9_scan (k := 273) hP hT hw (by omega) (fun I L c a b e => qv (kk I L c a b e)) _ 0 I2 L0 rfl (by decide) (by decide) ?_ (fun _ _ => rfl) ?_ ?_ (Nat.le_refl _) (fun i hi => absurd hi (Nat.not_lt_zero i)) (fun i hi => absurd hi (Nat.not_lt_zero i))
  · rw [e2, e1]; exact cFr_c (cFr_c (cFr_rf _ _) (by simp)) (by simp)
  · rw [e2, zuI_o (by decide), e1, zuI_v]; rfl
  · rw [e2, zuI_v]; rfl
abbrev gw_X9_kindOf (d : Nat) (Q : zQt) (pc : Nat) (lv : zV) (st : List Value) (I : zI) (L : zL) (P : zP) : Prop := zW zm_X9_kindOf (zRm d 0 0) 0 0 Q pc lv st I L P 205 0 0
abbrev v_X9_kindOf (d : Nat) (Q : zQt) (p1 : Int32) (I : zI) (L : zL) (P : zP) : Prop :=
  ((p1 < 0 →
    Q (some (.int 275)) I L P 205
  ) ∧ (¬ p1 < 0 →
    (((I 18 5) ≤ p1 →
      Q (some (.int 275)) I L P 205
    ) ∧ (¬ (I 18 5) ≤ p1 →
      vp_in p1 1601 ∧
      Q (some (.int (I 20 p1.toNatClampNeg))) I L P 205
    ))
  ))
set_option maxRecDepth 20000 in
theorem g_X9_kindOf {d : Nat} {Q : zQt} {p1 : Int32} {I : zI} {L : zL} {P : zP} (hP : zPk P) (hv : v_X9_kindOf d Q p1 I L P) : zM zm_X9_kindOf d 0 0 [.ref 18, .int p1] I L P 205 Q := by
  unfold v_X9_kindOf at hv
  refine zM_of (lv0 := [some (.ref 18), some (.int p1)]) (by decide +kernel) (Nat.le_of_ble_eq_true rfl) rfl ?_
  refine z_iload_n dX9_kindOf_0 rfl ?_
  refine z_if_lt (tgt := 21) dX9_kindOf_1 (by decide) (fun q1 => ?_) (fun q1 => ?_)
  · have hv := hv.1 q1
    refine z_sipush (v := 275) dX9_kindOf_21 (by decide) ?_
    exact z_ireturn dX9_kindOf_24 rfl rfl (Nat.le_refl _) (Nat.le_refl _) hv
  · have hv := hv.2 q1
    refine z_iload_n dX9_kindOf_4 rfl ?_
    refine z_aload_n dX9_kindOf_5 rfl ?_
    refine z_getI dX9_kindOf_6 zf_X9_29 zn_18 zo_18 (fun _ _ _ _ _ => rfl) ?_
    refine z_icmp_ge (tgt := 21) dX9_kindOf_9 (by decide) (fun q2 => ?_) (fun q2 => ?_)
    · have hv := hv.1 q2
      refine z_sipush (v := 275) dX9_kindOf_21 (by decide) ?_
      exact z_ireturn dX9_kindOf_24 rfl rfl (Nat.le_refl _) (Nat.le_refl _) hv
    · have hv := hv.2 q2
      refine z_aload_n dX9_kindOf_12 rfl ?_
      refine z_getP dX9_kindOf_13 zf_X9_19 zn_18 zo_18 (fun _ _ _ _ _ => rfl) (hP 18 2 20 zp_18_2) ?_
      refine z_iload_n dX9_kindOf_16 rfl ?_
      obtain ⟨h3, hv⟩ := hv
      refine z_iaload dX9_kindOf_17 zn_20 zh_20 h3 ?_
      refine z_goto (tgt := 24) dX9_kindOf_18 (by decide) ?_
      exact z_ireturn dX9_kindOf_24 rfl rfl (Nat.le_refl _) (Nat.le_refl _) hv
theorem sp_X9_kindOf {I : zI} {L : zL} {c i : Nat} (hP : zPk P) (h : tkR T n I L c) (hi : i ≤ c) {K : Int32 → zI → zL → zP → Prop} (kk : K (nI (tK T n (eS T n i))) I L P) : zMi zm_X9_kindOf d [.ref 18, .int (nI i)] I L P K := by
  have hc := h.1.2
  refine g_X9_kindOf hP ⟨fun q => absurd q (nI_pos (by omega)), fun _ => ⟨fun q => absurd q (by rw [h.1.1]; exact nI_ge (by omega) (by omega)), fun _ => ⟨nx_in (by omega) (by decide), qi ?_⟩⟩⟩
  rw [nI_cl (by omega), (h.2.1 i (by omega)).1]
  exact kk
abbrev gw_X9_placeOf (d : Nat) (Q : zQt) (pc : Nat) (lv : zV) (st : List Value) (I : zI) (L : zL) (P : zP) : Prop := zW zm_X9_placeOf (zRm d 0 0) 0 0 Q pc lv st I L P 205 0 0
abbrev v_X9_placeOf (d : Nat) (Q : zQt) (p1 : Int32) (I : zI) (L : zL) (P : zP) : Prop :=
  ((p1 < 0 →
    Q (some (.int (I 1 1))) I L P 205
  ) ∧ (¬ p1 < 0 →
    (((I 18 5) ≤ p1 →
      Q (some (.int (I 1 1))) I L P 205
    ) ∧ (¬ (I 18 5) ≤ p1 →
      vp_in p1 1601 ∧
      Q (some (.int (I 21 p1.toNatClampNeg))) I L P 205
    ))
  ))
set_option maxRecDepth 20000 in
theorem g_X9_placeOf {d : Nat} {Q : zQt} {p1 : Int32} {I : zI} {L : zL} {P : zP} (hP : zPk P) (hv : v_X9_placeOf d Q p1 I L P) : zM zm_X9_placeOf d 0 0 [.ref 18, .int p1] I L P 205 Q := by
  unfold v_X9_placeOf at hv
  refine zM_of (lv0 := [some (.ref 18), some (.int p1)]) (by decide +kernel) (Nat.le_of_ble_eq_true rfl) rfl ?_
  refine z_iload_n dX9_placeOf_0 rfl ?_
  refine z_if_lt (tgt := 21) dX9_placeOf_1 (by decide) (fun q1 => ?_) (fun q1 => ?_)
  · have hv := hv.1 q1
    refine z_aload_n dX9_placeOf_21 rfl ?_
    refine z_getP dX9_placeOf_22 zf_X9_36 zn_18 zo_18 (fun _ _ _ _ _ => rfl) (hP 18 0 1 zp_18_0) ?_
    refine z_getI dX9_placeOf_25 zf_X9_58 zn_1 zo_1 (fun _ _ _ _ _ => rfl) ?_
    exact z_ireturn dX9_placeOf_28 rfl rfl (Nat.le_refl _) (Nat.le_refl _) hv
  · have hv := hv.2 q1
    refine z_iload_n dX9_placeOf_4 rfl ?_
    refine z_aload_n dX9_placeOf_5 rfl ?_
    refine z_getI dX9_placeOf_6 zf_X9_29 zn_18 zo_18 (fun _ _ _ _ _ => rfl) ?_
    refine z_icmp_ge (tgt := 21) dX9_placeOf_9 (by decide) (fun q2 => ?_) (fun q2 => ?_)
    · have hv := hv.1 q2
      refine z_aload_n dX9_placeOf_21 rfl ?_
      refine z_getP dX9_placeOf_22 zf_X9_36 zn_18 zo_18 (fun _ _ _ _ _ => rfl) (hP 18 0 1 zp_18_0) ?_
      refine z_getI dX9_placeOf_25 zf_X9_58 zn_1 zo_1 (fun _ _ _ _ _ => rfl) ?_
      exact z_ireturn dX9_placeOf_28 rfl rfl (Nat.le_refl _) (Nat.le_refl _) hv
    · have hv := hv.2 q2
      refine z_aload_n dX9_placeOf_12 rfl ?_
      refine z_getP dX9_placeOf_13 zf_X9_23 zn_18 zo_18 (fun _ _ _ _ _ => rfl) (hP 18 3 21 zp_18_3) ?_
      refine z_iload_n dX9_placeOf_16 rfl ?_
      obtain ⟨h3, hv⟩ := hv
      refine z_iaload dX9_placeOf_17 zn_21 zh_21 h3 ?_
      refine z_goto (tgt := 28) dX9_placeOf_18 (by decide) ?_
      exact z_ireturn dX9_placeOf_28 rfl rfl (Nat.le_refl _) (Nat.le_refl _) hv
theorem sp_X9_placeOf {I : zI} {L : zL} {c i : Nat} (hP : zPk P) (h : tkR T n I L c) (hi : i ≤ c) {K : Int32 → zI → zL → zP → Prop} (kk : K (nI (tA T n (eS T n i))) I L P) : zMi zm_X9_placeOf d [.ref 18, .int (nI i)] I L P K := by
  have hc := h.1.2
  refine g_X9_placeOf hP ⟨fun q => absurd q (nI_pos (by omega)), fun _ => ⟨fun q => absurd q (by rw [h.1.1]; exact nI_ge (by omega) (by omega)), fun _ => ⟨nx_in (by omega) (by decide), qi ?_⟩⟩⟩
  rw [nI_cl (by omega), (h.2.1 i (by omega)).2.1]
  exact kk
abbrev gw_X9_valueOf (d : Nat) (Q : zQt) (pc : Nat) (lv : zV) (st : List Value) (I : zI) (L : zL) (P : zP) : Prop := zW zm_X9_valueOf (zRm d 0 0) 0 0 Q pc lv st I L P 205 0 0
abbrev v_X9_valueOf (d : Nat) (Q : zQt) (p1 : Int32) (I : zI) (L : zL) (P : zP) : Prop :=
  ((p1 < 0 →
    Q (some (.long 0)) I L P 205
  ) ∧ (¬ p1 < 0 →
    (((I 18 5) ≤ p1 →
      Q (some (.long 0)) I L P 205
    ) ∧ (¬ (I 18 5) ≤ p1 →
      vp_in p1 1601 ∧
      Q (some (.long (L 22 p1.toNatClampNeg))) I L P 205
    ))
  ))
set_option maxRecDepth 20000 in
theorem g_X9_valueOf {d : Nat} {Q : zQt} {p1 : Int32} {I : zI} {L : zL} {P : zP} (hP : zPk P) (hv : v_X9_valueOf d Q p1 I L P) : zM zm_X9_valueOf d 0 0 [.ref 18, .int p1] I L P 205 Q := by
  unfold v_X9_valueOf at hv
  refine zM_of (lv0 := [some (.ref 18), some (.int p1)]) (by decide +kernel) (Nat.le_of_ble_eq_true rfl) rfl ?_
  refine z_iload_n dX9_valueOf_0 rfl ?_
  refine z_if_lt (tgt := 21) dX9_valueOf_1 (by decide) (fun q1 => ?_) (fun q1 => ?_)
  · have hv := hv.1 q1
    refine z_lconst (v := 0) dX9_valueOf_21 (by decide) ?_
    exact z_lreturn dX9_valueOf_22 rfl (Nat.le_refl _) (Nat.le_refl _) hv
  · have hv := hv.2 q1
    refine z_iload_n dX9_valueOf_4 rfl ?_
    refine z_aload_n dX9_valueOf_5 rfl ?_
    refine z_getI dX9_valueOf_6 zf_X9_29 zn_18 zo_18 (fun _ _ _ _ _ => rfl) ?_
    refine z_icmp_ge (tgt := 21) dX9_valueOf_9 (by decide) (fun q2 => ?_) (fun q2 => ?_)
    · have hv := hv.1 q2
      refine z_lconst (v := 0) dX9_valueOf_21 (by decide) ?_
      exact z_lreturn dX9_valueOf_22 rfl (Nat.le_refl _) (Nat.le_refl _) hv
    · have hv := hv.2 q2
      refine z_aload_n dX9_valueOf_12 rfl ?_
      refine z_getP dX9_valueOf_13 zf_X9_26 zn_18 zo_18 (fun _ _ _ _ _ => rfl) (hP 18 4 22 zp_18_4) ?_
      refine z_iload_n dX9_valueOf_16 rfl ?_
      obtain ⟨h3, hv⟩ := hv
      refine z_laload dX9_valueOf_17 zn_22 zh_22 h3 ?_
      refine z_goto (tgt := 22) dX9_valueOf_18 (by decide) ?_
      exact z_lreturn dX9_valueOf_22 rfl (Nat.le_refl _) (Nat.le_refl _) hv
theorem sp_X9_valueOf {I : zI} {L : zL} {c i : Nat} (hP : zPk P) (h : tkR T n I L c) (hi : i ≤ c) {K : Int64 → zI → zL → zP → Prop} (kk : K (L 22 i) I L P) : zMl zm_X9_valueOf d [.ref 18, .int (nI i)] I L P K := by
  have hc := h.1.2
  refine g_X9_valueOf hP ⟨fun q => absurd q (nI_pos (by omega)), fun _ => ⟨fun q => absurd q (by rw [h.1.1]; exact nI_ge (by omega) (by omega)), fun _ => ⟨nx_in (by omega) (by decide), ql ?_⟩⟩⟩
  rw [nI_cl (by omega)]
  exact kk
end SCN
