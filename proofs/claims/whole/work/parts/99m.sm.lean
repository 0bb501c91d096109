/-! ===== class and model: whisper ===== -/
section QK
variable {d : Nat} {I I1 : zI} {L L1 : zL} {P : zP} {t st : Nat} {b : Nat → Nat} {cd : Nat → Cd}
/-- what a whisper leaves is a scene -/
theorem wWh_S {M M' : zI} {x : Nat} {r : Nat → Int32} (hS : MSc M) (hb : MCb M) (hk : vNw M < 8) (hx : x < 256) (h : wWh M M' (vNw M) x r) : mE M M' ∧ MSc M' ∧ MCb M' ∧ vNw M' = vNw M + 1 ∧ ∀ p a c, a < vN M → c < vN M → (vLike M' p a c ↔ vLike M p a c ∧ (x.testBit p = true → ((r a = 0) ↔ (r c = 0)))) := by
  obtain ⟨f, h38, h46, h182, o182, h181, o181⟩ := h
  have hN := vN_le hS.1.1
  have hE : mE M M' := ⟨zFr_wk f (fun a ha => meC_hi ((by decide : ∀ x ∈ [181, 182], x ∈ [161, 162, 166, 175, 176, 177, 178, 179, 180, 181, 182, 183, 184, 185, 186, 187, 188, 189, 190, 191, 192, 193, 194, 195, 196, 197, 198, 199, 200, 201, 202, 203, 204]) a ha)) (by decide), fun k _ => by rw [f.1 166 (by decide) (by decide)], fun k _ => by rw [f.1 175 (by decide) (by decide), f.1 176 (by decide) (by decide)]; exact ⟨rfl, rfl⟩⟩
  have vw : vNw M' = vNw M + 1 := by
    show (M' 160 38).toNatClampNeg = _
    rw [h38, nI_cl (by omega)]
  have wt : ∀ k, k ≠ vNw M → vWt M' k = vWt M k := fun k hk' => by unfold vWt; rw [o182 k hk']
  have wtk : vWt M' (vNw M) = x := by unfold vWt; rw [h182, nI_cl (by omega)]
  obtain ⟨hEE, hT, hC, hG, hZ, hM, hpt⟩ := hS
  obtain ⟨c1, c2, -⟩ := mE_C hE hEE.1 hb hC
  refine ⟨hE, ⟨⟨mE_MB hE hEE.1, ?_, ⟨by rw [vw]; omega, by rw [vw]; exact h38, ?_⟩⟩, mE_MT hE hT, c1, ?_, ⟨by rw [f.1 180 (by decide) (by decide)]; exact hZ.1, fun j hj => ?_⟩, Or.inl h46, ?_⟩, c2, vw, ?_⟩
  · intro p hp'
    rw [mE_np hE] at hp'
    rw [mE_B hE, hE.1.1 168 (meC_n 168 (by decide)) (by decide)]
    exact hEE.2.1 p hp'
  · intro k hk'
    rw [vw] at hk'
    by_cases c : k = vNw M
    · rw [c, wtk]; exact ⟨hx, h182⟩
    · rw [wt k c, o182 k c]; exact hEE.2.2.2.2 k (by omega)
  · unfold MG vGn at hG ⊢
    rw [f.2 40 (by decide)]
    exact hG
  · by_cases c : 256 * vNw M ≤ j ∧ j < 256 * vNw M + vN M
    · rw [show j = 256 * vNw M + (j - 256 * vNw M) by omega, h181 _ (by omega)]
      exact bP_or _
    · rw [o181 j c]; exact hZ.2 j hj
  · rw [mE_tw hE]
    unfold vPoss at hpt ⊢
    rw [f.1 180 (by decide) (by decide)]
    exact hpt
  · intro p a c ha hc
    unfold vLike
    rw [mE_se hE, vw]
    have old : ∀ k, k < vNw M → M' 181 (256 * k + a) = M 181 (256 * k + a) ∧ M' 181 (256 * k + c) = M 181 (256 * k + c) := fun k hk' => ⟨o181 _ (by omega), o181 _ (by omega)⟩
    have new : (M' 181 (256 * vNw M + a) = M' 181 (256 * vNw M + c)) ↔ ((r a = 0) ↔ (r c = 0)) := by
      rw [h181 a ha, h181 c hc]
      constructor
      · intro e
        by_cases z : r a = 0
        · rw [bP_f (fun y => y z)] at e
          have := bP_0.mp e.symm
          exact ⟨fun _ => Classical.not_not.mp this, fun _ => z⟩
        · rw [bP_t z] at e
          have := bP_1.mp e.symm
          exact ⟨fun y => absurd y z, fun y => absurd y this⟩
      · intro e
        exact bP_c (not_congr e)
    constructor
    · rintro ⟨y1, y2⟩
      refine ⟨⟨y1, fun k hk' z => ?_⟩, fun z => ?_⟩
      · have := y2 k (by omega) (by rw [wt k (by omega)]; exact z)
        rwa [(old k hk').1, (old k hk').2] at this
      · exact new.mp (y2 (vNw M) (by omega) (by rw [wtk]; exact z))
    · rintro ⟨⟨y1, y2⟩, y3⟩
      refine ⟨y1, fun k hk' z => ?_⟩
      by_cases ck : k = vNw M
      · subst ck
        rw [wtk] at z
        exact new.mpr (y3 z)
      · rw [wt k ck] at z
        rw [(old k (by omega)).1, (old k (by omega)).2]
        exact y2 k (by omega) z
abbrev gw_X11_whisper (d : Nat) (Q : zQt) (pc : Nat) (lv : zV) (st : List Value) (I : zI) (L : zL) (P : zP) : Prop := zW zm_X11_whisper (zRm d 0 0) 0 0 Q pc lv st I L P 205 0 0
abbrev v_X11_whisper_42 (d : Nat) (Q : zQt) (p1 : Int32) (x2 : Nat) (x3 : Int32) (I : zI) (L : zL) (P : zP) : Prop :=
  ∃ b22 : Nat, P 0 2 = some b22 ∧
  (b22 < 205 ∧ (zsh b22).1 = 2) ∧
  (((I b22 0) ≤ x3 →
    ∀ I26 : zI, I26 = zuI I 73 6 ((I 73 6) + 1) →
    ∃ n29, (x2 < 205 ∧ zsh x2 = (100, n29)) ∧
    vp_in (I26 b22 1) n29 ∧
    (((I26 x2 (I26 b22 1).toNatClampNeg) = 0 →
      Q (some (.int 0)) I26 L P 205
    ) ∧ (¬ (I26 x2 (I26 b22 1).toNatClampNeg) = 0 →
      Q (some (.int 1)) I26 L P 205
    ))
  ) ∧ (¬ (I b22 0) ≤ x3 →
    ((¬ ((p1 >>> (x3 &&& 31) : Int32) &&& 1 : Int32) = 1 →
      gw_X11_whisper (d + 1) Q 42 [some (.ref 0), some (.int p1), some (.ref x2), some (.int (x3 + 1))] [] I L P
    ) ∧ (((p1 >>> (x3 &&& 31) : Int32) &&& 1 : Int32) = 1 →
      zMv zm_X10_split d [.ref 74, .int x3, .ref x2, .ref 73] I L P (fun I33 L34 P35 =>
        gw_X11_whisper (d + 1) Q 42 [some (.ref 0), some (.int p1), some (.ref x2), some (.int (x3 + 1))] [] I33 L34 P35
      )
    ))
  ))
set_option maxRecDepth 20000 in
theorem g_X11_whisper_42 {d : Nat} {Q : zQt} {p1 : Int32} {x2 : Nat} {x3 : Int32} {I : zI} {L : zL} {P : zP} (hP : zPk P) (hd : 1 ≤ d) (hv : v_X11_whisper_42 d Q p1 x2 x3 I L P) : gw_X11_whisper (d + 1) Q 42 [some (.ref 0), some (.int p1), some (.ref x2), some (.int x3)] [] I L P := by
  unfold v_X11_whisper_42 at hv
  refine z_iload_n dX11_whisper_42 rfl ?_
  refine z_aload_n dX11_whisper_43 rfl ?_
  obtain ⟨b22, h23, hv⟩ := hv
  refine z_getP dX11_whisper_44 zf_X11_26 zn_0 zo_0 (fun _ _ _ _ _ => rfl) h23 ?_
  obtain ⟨h24, hv⟩ := hv
  refine z_getI dX11_whisper_47 zf_X11_118 h24.1 h24.2 (fun _ _ _ _ _ => rfl) ?_
  refine z_icmp_ge (tgt := 84) dX11_whisper_50 (by decide) (fun q25 => ?_) (fun q25 => ?_)
  · have hv := hv.1 q25
    refine z_aload_n dX11_whisper_84 rfl ?_
    refine z_getP dX11_whisper_85 zf_X11_57 zn_0 zo_0 (fun _ _ _ _ _ => rfl) (hP 0 6 73 zp_0_6) ?_
    refine z_dup dX11_whisper_88 rfl ?_
    refine z_getI dX11_whisper_89 zf_X11_183 zn_73 zo_73 (fun _ _ _ _ _ => rfl) ?_
    refine z_iconst (v := 1) dX11_whisper_92 (by decide) ?_
    refine z_iadd dX11_whisper_93 ?_
    refine z_putI dX11_whisper_94 zf_X11_183 zn_73 zo_73 (Or.inl rfl) (fun _ _ _ _ _ => rfl) rfl rfl (z_nmI (fun I26 e27 => ?_))
    have hv := hv I26 e27
    refine z_aload_n dX11_whisper_97 rfl ?_
    refine z_aload_n dX11_whisper_98 rfl ?_
    refine z_getP dX11_whisper_99 zf_X11_26 zn_0 zo_0 (fun _ _ _ _ _ => rfl) h23 ?_
    refine z_getI dX11_whisper_102 zf_X11_158 h24.1 h24.2 (fun _ _ _ _ _ => rfl) ?_
    obtain ⟨n29, h28, hv⟩ := hv
    obtain ⟨h30, hv⟩ := hv
    refine z_iaload dX11_whisper_105 h28.1 h28.2 h30 ?_
    refine z_if_eq (tgt := 113) dX11_whisper_106 (by decide) (fun q31 => ?_) (fun q31 => ?_)
    · have hv := hv.1 q31
      refine z_iconst (v := 0) dX11_whisper_113 (by decide) ?_
      exact z_ireturn dX11_whisper_114 rfl rfl (Nat.le_refl _) (Nat.le_refl _) hv
    · have hv := hv.2 q31
      refine z_iconst (v := 1) dX11_whisper_109 (by decide) ?_
      refine z_goto (tgt := 114) dX11_whisper_110 (by decide) ?_
      exact z_ireturn dX11_whisper_114 rfl rfl (Nat.le_refl _) (Nat.le_refl _) hv
  · have hv := hv.2 q25
    refine z_iload_n dX11_whisper_53 rfl ?_
    refine z_iload_n dX11_whisper_54 rfl ?_
    refine z_ishr dX11_whisper_55 ?_
    refine z_iconst (v := 1) dX11_whisper_56 (by decide) ?_
    refine z_iand dX11_whisper_57 ?_
    refine z_iconst (v := 1) dX11_whisper_58 (by decide) ?_
    refine z_icmp_ne (tgt := 78) dX11_whisper_59 (by decide) (fun q32 => ?_) (fun q32 => ?_)
    · have hv := hv.1 q32
      refine z_iinc (v2 := x3 + 1) (lv2 := [some (.ref 0), some (.int p1), some (.ref x2), some (.int (x3 + 1))]) dX11_whisper_78 rfl (by rfl) (by decide) rfl rfl ?_
      refine z_goto (tgt := 42) dX11_whisper_81 (by decide) ?_
      exact hv
    · have hv := hv.2 q32
      refine z_aload_n dX11_whisper_62 rfl ?_
      refine z_getP dX11_whisper_63 zf_X11_57 zn_0 zo_0 (fun _ _ _ _ _ => rfl) (hP 0 6 73 zp_0_6) ?_
      refine z_getP dX11_whisper_66 zf_X11_61 zn_73 zo_73 (fun _ _ _ _ _ => rfl) (hP 73 0 74 zp_73_0) ?_
      refine z_iload_n dX11_whisper_69 rfl ?_
      refine z_aload_n dX11_whisper_70 rfl ?_
      refine z_aload_n dX11_whisper_71 rfl ?_
      refine z_getP dX11_whisper_72 zf_X11_57 zn_0 zo_0 (fun _ _ _ _ _ => rfl) (hP 0 6 73 zp_0_6) ?_
      refine z_callV (As := [.int x3, .ref x2, .ref 73]) (st := []) dX11_whisper_75 zl_X11_186 zv_X10_split (by decide) rfl zn_74 zo_74 rfl rfl (Nat.le_of_ble_eq_true rfl) ⟨Nat.le_refl _, Nat.le_refl _⟩ ⟨Nat.le_refl _, Nat.le_refl _⟩ hv (fun v1 I33 L34 P35 nx1 q36 => ?_)
      obtain ⟨rfl, rfl, hv⟩ := q36
      refine z_iinc (v2 := x3 + 1) (lv2 := [some (.ref 0), some (.int p1), some (.ref x2), some (.int (x3 + 1))]) dX11_whisper_78 rfl (by rfl) (by decide) rfl rfl ?_
      refine z_goto (tgt := 42) dX11_whisper_81 (by decide) ?_
      exact hv
abbrev v_X11_whisper (d : Nat) (Q : zQt) (p1 : Int32) (I : zI) (L : zL) (P : zP) : Prop :=
  zMi zm_X11_weighTape d [.ref 0] I L P (fun r5 I1 L2 P3 =>
    ((r5 = 0 →
      Q (some (.int (-1))) I1 L2 P3 205
    ) ∧ (¬ r5 = 0 →
      ∃ b7 : Nat, P3 0 2 = some b7 ∧
      (b7 < 205 ∧ (zsh b7).1 = 2) ∧
      zPk P3 ∧
      il b7 ∧
      vp_in (I1 b7 0) 9 ∧
      (((bP (vp_in p1 (2 ^ (I1 b7 0).toNatClampNeg))) = 0 →
        Q (some (.int (-1))) I1 L2 P3 205
      ) ∧ (¬ (bP (vp_in p1 (2 ^ (I1 b7 0).toNatClampNeg))) = 0 →
        (((I1 73 6) < 8 →
          zMr zm_X4_result d [.ref 23] I1 L2 P3 (fun r21 I17 L18 P19 =>
            gw_X11_whisper (d + 1) Q 42 [some (.ref 0), some (.int p1), some (.ref r21), some (.int 0)] [] I17 L18 P19
          )
        ) ∧ (¬ (I1 73 6) < 8 →
          Q (some (.int (-1))) I1 L2 P3 205
        ))
      ))
    ))
  )
set_option maxRecDepth 20000 in
theorem g_X11_whisper {d : Nat} {Q : zQt} {p1 : Int32} {I : zI} {L : zL} {P : zP} (hP : zPk P) (hd : 1 ≤ d) (hv : v_X11_whisper d Q p1 I L P) : zM zm_X11_whisper (d + 1) 0 0 [.ref 0, .int p1] I L P 205 Q := by
  unfold v_X11_whisper at hv
  refine zM_of (lv0 := [some (.ref 0), some (.int p1), none, none]) (by decide +kernel) (Nat.le_of_ble_eq_true rfl) rfl ?_
  refine z_aload_n dX11_whisper_0 rfl ?_
  refine z_callV (As := []) (st := []) dX11_whisper_1 zl_X11_150 zv_X11_weighTape (by decide) rfl zn_0 zo_0 rfl rfl (Nat.le_of_ble_eq_true rfl) ⟨Nat.le_refl _, Nat.le_refl _⟩ ⟨Nat.le_refl _, Nat.le_refl _⟩ hv (fun v1 I1 L2 P3 nx1 q4 => ?_)
  obtain ⟨rfl, r5, rfl, hv⟩ := q4
  refine z_if_eq (tgt := 30) dX11_whisper_4 (by decide) (fun q6 => ?_) (fun q6 => ?_)
  · have hv := hv.1 q6
    refine z_iconst (v := (-1)) dX11_whisper_30 (by decide) ?_
    exact z_ireturn dX11_whisper_31 rfl rfl (Nat.le_refl _) (Nat.le_refl _) hv
  · have hv := hv.2 q6
    refine z_aload_n dX11_whisper_7 rfl ?_
    obtain ⟨b7, h8, hv⟩ := hv
    refine z_getP dX11_whisper_8 zf_X11_26 zn_0 zo_0 (fun _ _ _ _ _ => rfl) h8 ?_
    refine z_iload_n dX11_whisper_11 rfl ?_
    obtain ⟨h9, hv⟩ := hv
    obtain ⟨h10, hv⟩ := hv
    obtain ⟨h11, hv⟩ := hv
    obtain ⟨h12, hv⟩ := hv
    refine z_callV (As := [.int p1]) (st := []) dX11_whisper_12 zl_X11_180 zv_X2_arePeople (by decide) rfl h9.1 h9.2 rfl rfl (Nat.le_of_ble_eq_true rfl) ⟨Nat.le_refl _, Nat.le_refl _⟩ ⟨Nat.le_refl _, Nat.le_refl _⟩ (sp_X2_arePeople h10 h11 h12 (by omega) (K := fun r I' L' P' => bP (vp_in p1 (2 ^ (I1 b7 0).toNatClampNeg)) = r ∧ I1 = I' ∧ L2 = L' ∧ P3 = P') ⟨rfl, rfl, rfl, rfl⟩) (fun v1 I2 L2 P2 nx1 q14 => ?_)
    obtain ⟨rfl, r13, rfl, rfl, rfl, rfl, rfl⟩ := q14
    refine z_if_eq (tgt := 30) dX11_whisper_15 (by decide) (fun q15 => ?_) (fun q15 => ?_)
    · have hv := hv.1 q15
      refine z_iconst (v := (-1)) dX11_whisper_30 (by decide) ?_
      exact z_ireturn dX11_whisper_31 rfl rfl (Nat.le_refl _) (Nat.le_refl _) hv
    · have hv := hv.2 q15
      refine z_aload_n dX11_whisper_18 rfl ?_
      refine z_getP dX11_whisper_19 zf_X11_57 zn_0 zo_0 (fun _ _ _ _ _ => rfl) (h10 0 6 73 zp_0_6) ?_
      refine z_getI dX11_whisper_22 zf_X11_183 zn_73 zo_73 (fun _ _ _ _ _ => rfl) ?_
      refine z_bipush (v := 8) dX11_whisper_25 (by decide) ?_
      refine z_icmp_lt (tgt := 32) dX11_whisper_27 (by decide) (fun q16 => ?_) (fun q16 => ?_)
      · have hv := hv.1 q16
        refine z_aload_n dX11_whisper_32 rfl ?_
        refine z_getP dX11_whisper_33 zf_X11_45 zn_0 zo_0 (fun _ _ _ _ _ => rfl) (h10 0 5 23 zp_0_5) ?_
        refine z_callV (As := []) (st := []) dX11_whisper_36 zl_X11_154 zv_X4_result (by decide) rfl zn_23 zo_23 rfl rfl (Nat.le_of_ble_eq_true rfl) ⟨Nat.le_refl _, Nat.le_refl _⟩ ⟨Nat.le_refl _, Nat.le_refl _⟩ hv (fun v1 I17 L18 P19 nx1 q20 => ?_)
        obtain ⟨rfl, r21, rfl, hv⟩ := q20
        refine z_astore_n (lv2 := [some (.ref 0), some (.int p1), some (.ref r21), none]) dX11_whisper_39 (by decide) rfl rfl ?_
        refine z_iconst (v := 0) dX11_whisper_40 (by decide) ?_
        refine z_istore_n (lv2 := [some (.ref 0), some (.int p1), some (.ref r21), some (.int 0)]) dX11_whisper_41 (by decide) rfl rfl ?_
        exact hv
      · have hv := hv.2 q16
        refine z_iconst (v := (-1)) dX11_whisper_30 (by decide) ?_
        exact z_ireturn dX11_whisper_31 rfl rfl (Nat.le_refl _) (Nat.le_refl _) hv
/-- the groups, while a whisper goes round -/
def gWh (np i x : Nat) (xs : List Nat) (r : Nat → Int32) (g : Nat → Nat → Nat) (J : zI) (G : Nat → Nat → Nat) : Prop := ∀ p, p < np → cG 74 p J xs (G p) ∧ ∀ a ∈ xs, ∀ c ∈ xs, (G p a = G p c ↔ g p a = g p c ∧ (p < i → x.testBit p = true → ((r a = 0) ↔ (r c = 0))))
theorem lp_X11_whisper {Q : zQt} {np x tw : Nat} {xs : List Nat} {g : Nat → Nat → Nat} (hP : zPk P) (ht : P 0 2 = some t) (hi : il t) (h8 : np ≤ 8) (hx : x < 256) (htw : tw < 256) (e0 : I1 t 0 = nI np) (e1 : I1 t 1 = nI tw) (hS : cS 73 85 I1 xs) (hnd : xs.Nodup) (hd : 1 ≤ d)
    (kk : ∀ J G, (∀ a, ¬ ((76 ≤ a ∧ a ≤ 84) ∨ a = 73) → J a = I1 a) → (∀ k, k ≠ 6 → J 73 k = I1 73 k) → J 73 6 = I1 73 6 + 1 → gWh np np x xs (I1 25) g J G → Q (some (.int (bP (¬ I1 25 tw = 0)))) J L P 205) :
    ∀ m i J G, i + m = np → (∀ a, ¬ (76 ≤ a ∧ a ≤ 84) → J a = I1 a) → gWh np i x xs (I1 25) g J G → gw_X11_whisper (d + 1) Q 42 [some (.ref 0), some (.int (nI x)), some (.ref 25), some (.int (nI i))] [] J L P := by
  have hil := hi
  unfold il at hil
  have b1 := (il_P hi hP).1
  intro m
  induction m with
  | zero =>
    intro i J G him hf hg
    have : i = np := by omega
    subst this
    refine g_X11_whisper_42 hP (by omega) ⟨t, ht, b1, fun _ I26 e26 => ⟨256, by decide +kernel, ?_⟩, fun q => absurd (by rw [hf t (by omega), e0]; exact nI_le (Nat.le_refl _) (by omega)) q⟩
    have c26 : ∀ a, a ≠ 73 → I26 a = J a := fun a ha => by rw [e26, zuI_ne ha]
    have t1 : I26 t 1 = nI tw := by rw [c26 t (by omega), hf t (by omega)]; exact e1
    have c25 : I26 25 = I1 25 := by rw [c26 25 (by decide), hf 25 (by omega)]
    rw [t1, nI_cl (by omega), c25]
    have fin := kk I26 G (fun a ha => by rw [c26 a (by omega), hf a (by omega)]) (fun k hk => by rw [e26, zuI_o hk, hf 73 (by omega)]) (by rw [e26, zuI_v, hf 73 (by omega)]) (fun p hp => ⟨cG_c (hg p hp).1 (c26 _ (by omega)), (hg p hp).2⟩)
    refine ⟨nx_in htw (by decide), fun z => ?_, fun z => ?_⟩
    · rw [bP_f (fun y => y z)] at fin; exact fin
    · rw [bP_t z] at fin; exact fin
  | succ m ih =>
    intro i J G him hf hg
    refine g_X11_whisper_42 hP (by omega) ⟨t, ht, b1, fun q => absurd q (by rw [hf t (by omega), e0]; exact nI_ge (by omega) (by omega)), fun _ => ?_⟩
    rw [nx_bit1 (by omega) (by omega), nI_1]
    refine ⟨fun z => ?_, fun z => ?_⟩
    · refine ih (i + 1) J G (by omega) hf (fun p hp => ⟨(hg p hp).1, fun a ha c hc => ?_⟩)
      rw [(hg p hp).2 a ha c hc]
      constructor
      · rintro ⟨y1, y2⟩
        refine ⟨y1, fun l t' => ?_⟩
        by_cases cp : p = i
        · subst cp; exact absurd t' z
        · exact y2 (by omega) t'
      · rintro ⟨y1, y2⟩
        exact ⟨y1, fun l t' => y2 (by omega) t'⟩
    · have hSJ : cS 73 85 J xs := cS_c hS (by rw [hf 73 (by omega)]) (hf 85 (by omega))
      refine sp_X10_split hP (Or.inl rfl) (Or.inl ⟨rfl, rfl, rfl⟩) (by omega) (Or.inl rfl) hSJ hnd (hg i (by omega)).1 hd (fun J2 G' f2 y1 y2 => ?_)
      refine ih (i + 1) J2 (fun p => if p = i then G' else G p) (by omega) (fun a ha => by rw [f2 a (by simp only [List.mem_cons, List.not_mem_nil, or_false]; omega), hf a ha]) (fun p hp => ?_)
      by_cases cp : p = i
      · subst cp
        simp only [if_true]
        refine ⟨y1, fun a ha c hc => ?_⟩
        rw [y2 a ha c hc, (hg p hp).2 a ha c hc, hf 25 (by omega)]
        constructor
        · rintro ⟨⟨u1, u2⟩, u3⟩
          exact ⟨u1, fun _ _ => u3⟩
        · rintro ⟨u1, u2⟩
          exact ⟨⟨u1, fun l => absurd l (by omega)⟩, u2 (by omega) z⟩
      · simp only [if_neg cp]
        refine ⟨cG_c (hg p hp).1 (f2 _ (by simp only [List.mem_cons, List.not_mem_nil, or_false]; omega)), fun a ha c hc => ?_⟩
        rw [(hg p hp).2 a ha c hc]
        constructor
        · rintro ⟨u1, u2⟩
          exact ⟨u1, fun l t' => u2 (by omega) t'⟩
        · rintro ⟨u1, u2⟩
          exact ⟨u1, fun l t' => u2 (by omega) t'⟩
theorem q_whisper {x : Int32} (h : Rl I I L P t st b cd) (hd : 72 ≤ d) : zMi zm_X11_whisper d [.ref 0, .int x] I L P (fun r I1 L1 P1 => zPk P1 ∧ zMi zm_X12_whisper d [.ref 160, .int x] I1 L1 P1 (q2 r)) := by
  obtain ⟨d, rfl⟩ : ∃ e, d = e + 1 := ⟨d - 1, by omega⟩
  have hP := h.1.1
  have hS := h.2.1.1
  have hR := h.2.2.1.1
  have hN := vN_le hS.1.1
  have tw := hS.2.1.1
  obtain ⟨e0, h8, hi⟩ := Rl_t0 h
  have hil := hi
  unfold il at hil
  obtain ⟨g, hs, h5, h6, j, hj, ej⟩ := h.2.2.2.2.2.1
  have hW := hS.1.2.2
  have q7 : ∀ a, (a = 73 ∨ a = 85 ∨ a = t ∨ (74 ≤ a ∧ a ≤ 74 + 10)) → ¬ wtC a := fun a _ => by unfold wtC; omega
  have eN : 2 ^ vNp I = vN I := rfl
  refine g_X11_whisper hP (by omega) (sp_X11_weighTape h (by omega) (fun q hq I1 L1 hP1 f1 l1 a1 a2 a3 => ⟨fun _ => qj hP1 ?_, fun z => absurd rfl z⟩) (fun e u c hq I1 L1 hP1 f1 l1 a1 a2 a3 r1 => ⟨fun z => absurd z (by decide), fun _ => ⟨t, by rw [pRd_o (by decide)]; exact h.1.2.1, (il_P hi hP).1, hP1, hi, ?_, ?_⟩⟩))
  · have em : eM I I1 := fun a ha => f1 a (by unfold wtC; omega)
    obtain ⟨s1, s2, s3⟩ := wt_R h em
    refine sp_X12_whisper hP1 s1 s2 s3 (by omega) (fun T' n' hx q' hq' hk I2 L2 w2 x4 x5 => ?_) (fun T' n' hx e' u' c' hq' => ?_) (fun T' n' hx e' u' c' hq' => ?_)
    · rw [aRd_one h em l1 hx, hq] at hq'
      have : q = q' := Sum.inl.inj hq'
      subst this
      exact ⟨rfl, hP1, Rn_i (Rl_wf h hP1 f1 l1 a1 w2 ⟨by rw [a2, x4], by rw [a3, x5]⟩)⟩
    · rw [aRd_one h em l1 hx, hq] at hq'; cases hq'
    · rw [aRd_one h em l1 hx, hq] at hq'; cases hq'
  · rw [f1 t (q7 t (by omega)), e0]; exact nx_in (by omega) (by decide)
  · have em : eM I I1 := fun a ha => f1 a (by unfold wtC; omega)
    have i0 : I1 t 0 = nI (vNp I) := by rw [f1 t (q7 t (by omega))]; exact e0
    have i1 : I1 t 1 = nI (vTw I) := by rw [f1 t (q7 t (by omega))]; exact hR.2.1
    have h73 : I1 73 = I 73 := f1 73 (q7 73 (by omega))
    have e6 : I1 73 6 = nI (vNw I) := by rw [h73, h6]; exact hW.2.1
    rw [i0, nI_cl (by omega), eN, e6]
    have no : ¬ ((∃ a, a < vN I ∧ x = nI a) ∧ vNw I < 8) → zMi zm_X12_whisper (d + 1) [.ref 160, .int x] I1 L1 (pRd P t 3) (q2 (-1)) := by
      intro z
      obtain ⟨s1, s2, s3⟩ := wt_R h em
      have ew : vNw I1 = vNw I := by unfold vNw; rw [em 160 (by decide)]
      refine sp_X12_whisper hP1 s1 s2 s3 (by omega) (fun T' n' hx q' hq' => ?_) (fun T' n' hx e' u' c' hq' cq zz I2 L2 w2 x4 x5 => ⟨rfl, hP1, Rn_i (Rl_wf h hP1 f1 l1 a1 w2 ⟨by rw [a2, x4], by rw [a3, x5]⟩)⟩) (fun T' n' hx e' u' c' hq' cq a ha ea hw => ?_)
      · rw [aRd_one h em l1 hx, hq] at hq'; cases hq'
      · rw [eM_n em] at ha
        rw [ew] at hw
        exact absurd ⟨⟨a, ha, ea⟩, hw⟩ z
    refine ⟨fun z => qj hP1 (no (fun y => ?_)), fun z => ⟨fun z2 => sp_X4_result hP1 ?_, fun z2 => qj hP1 (no (fun y => z2 (nI_lt y.2 (by decide))))⟩⟩
    · rw [bP_0] at z
      obtain ⟨⟨a, ha, rfl⟩, -⟩ := y
      exact z (nx_in ha (by omega))
    · clear no
      rw [bP_n] at z
      obtain ⟨a, ha, rfl⟩ := vp_nI z (by omega)
      have w8 := hW.1
      rw [show (8 : Int32) = nI 8 from rfl, nI_ltI (by omega) (by decide)] at z2
      obtain ⟨x1, x2, x3, x4, x5, x6, x7⟩ := wH_fr hs.1 (fun a ha => f1 a (q7 a ha))
      refine lp_X11_whisper (I1 := I1) (L := L1) (P := pRd P t 3) (t := t) (np := vNp I) (x := a) (tw := vTw I) (xs := lP (vPoss I) (vN I)) (g := g) hP1 (by rw [pRd_o (by decide)]; exact h.1.2.1) hi h8 (by omega) (by omega) i0 i1 x2 x3 (by omega) (fun J G fJ o6 s6 hG => ?_) (vNp I) 0 I1 g (by omega) (fun _ _ => rfl) (fun p hp => ⟨x7 p hp, fun y hy c hc => ⟨fun e => ⟨e, fun l => absurd l (Nat.not_lt_zero _)⟩, fun e => e.1⟩⟩)
      rw [r1 (vTw I) tw hS.2.2.2.2.2.2]
      have emJ1 : eM I1 J := fun a ha => fJ a (by omega)
      have emJ : eM I J := fun a ha => by rw [emJ1 a ha, em a ha]
      obtain ⟨s1, s2, s3⟩ := wt_R h emJ
      have ewJ : vNw J = vNw I := by unfold vNw; rw [emJ 160 (by decide)]
      refine qj hP1 (sp_X12_whisper hP1 s1 s2 s3 (by omega) (fun T' n' hx q' hq' => ?_) (fun T' n' hx e' u' c' hq' cq zz => ?_) (fun T' n' hx e' u' c' hq' cq a' ha' ea' hw' I3 L3 w3 x4' x5' I4 hwh => ?_))
      · rw [aRd_one h emJ l1 hx, hq] at hq'; cases hq'
      · exact absurd ⟨⟨a, by rw [eM_n emJ]; exact ha, rfl⟩, by rw [ewJ]; exact z2⟩ zz
      · rw [aRd_one h emJ l1 hx, hq] at hq'
        have ec : c = c' := congrArg (fun y : Nat × Nat × Cd => y.2.2) (Sum.inr.inj hq')
        subst ec
        rw [eM_n emJ] at ha'
        have ea : a' = a := ((nI_eq (by omega) (by omega)).mp ea').symm
        subst ea
        rw [eM_po emJ, eM_gn emJ, eM_rw emJ] at hwh ⊢
        rw [eM_tw emJ]
        have hwv := wFr_v emJ1 w3
        have RV := Rl_wf h hP1 f1 l1 a1 hwv ⟨by rw [hV2_hi (by decide), a2, x4'], by rw [hV2_hi (by decide), a3, x5']⟩
        have f3 := w3.1
        obtain ⟨hE3, hS3⟩ := wFr_e f3 w3.2.2.2.1 w3.2.2.2.2.1
        have hE : mE I I3 := mE_tr (mE_c emJ) hE3
        have hSs : mSe I I3 := mSe_tr (mSe_c emJ) hS3
        obtain ⟨S3, C3⟩ := wFr_MSc s1 s2 w3
        have ew3 : vNw I3 = vNw I := by unfold vNw; rw [hSs.2.2.2.1]
        rw [ewJ, ← ew3] at hwh
        obtain ⟨hE4, S4, C4, vw4, lk4⟩ := wWh_S S3 C3 (by rw [ew3]; exact z2) (by omega) hwh
        obtain ⟨f4, h38, h46, -⟩ := hwh
        have c4 : ∀ y, y < 160 → I4 y = J y := fun y hy => by rw [f4.1 y (by simp only [List.mem_cons, List.not_mem_nil, or_false]; omega) (by omega), f3.1 y (by simp only [List.mem_cons, List.not_mem_nil, or_false]; omega) (by omega)]
        have eV : mE (hV2 I1 I3) I4 := mE_tr (mE_c (A := hV2 I1 I3) (B := I3) (fun a ha => (hV2_hi ha).symm)) hE4
        have hEI : mE I I4 := mE_tr hE hE4
        have po4 : vPoss I4 = vPoss I := by rw [vPoss_fr f4 (by decide), vPoss_fr f3 (by decide), eM_po emJ]
        have gn4 : vGn I4 = vGn I := by unfold vGn; rw [f4.2 40 (by decide), f3.2 40 (by decide), emJ 160 (by decide)]
        have e39 : I4 160 39 = I 160 39 := by rw [f4.2 39 (by decide), f3.2 39 (by decide), emJ 160 (by decide)]
        have n3 : vN I3 = vN I := mE_n hE
        have sc4 : rSc (pRd P t 3) 73 85 74 t I4 I4 G := by
          refine ⟨⟨?_, ?_, ⟨?_, ?_⟩, ?_⟩, ?_, ?_, ⟨j, hj, by rw [e39]; exact ej⟩⟩
          · rw [mE_np hEI, mE_n hEI, po4]
            refine ⟨x1, cS_c x2 (by rw [c4 73 (by decide), o6 3 (by decide)]) (by rw [c4 85 (by decide), fJ 85 (by omega)]), x3, x4, x5, iH_c x6 (by rw [c4 t (by omega), fJ t (by omega)]), fun p hp => cG_c (hG p hp).1 (c4 _ (by omega))⟩
          · intro p hp y1 y2 hy1 hy2 p1 p2
            rw [mE_np hEI] at hp
            rw [mE_n hEI] at hy1 hy2
            rw [po4] at p1 p2
            rw [lk4 p y1 y2 (by rw [n3]; exact hy1) (by rw [n3]; exact hy2), mSe_lk hE hSs hW (by omega) (by omega)]
            have m1 := lP_mem.mpr ⟨hy1, p1⟩
            have m2 := lP_mem.mpr ⟨hy2, p2⟩
            have k1 := (hG p hp).2 y2 m2 y1 m1
            rw [k1, hs.2.1 p hp y1 y2 hy1 hy2 p1 p2, r1 y1 hy1 p1, r1 y2 hy2 p2]
            constructor
            · rintro ⟨u1, u2⟩; exact ⟨u1, fun l => (u2 hp l).symm⟩
            · rintro ⟨u1, u2⟩; exact ⟨u1, fun _ l => (u2 l).symm⟩
          · rw [c4 73 (by decide), o6 4 (by decide), h73, gn4]; exact hs.2.2.1.1
          · rw [gn4]; exact hs.2.2.1.2
          · rw [po4, mE_tw hEI]; exact hs.2.2.2
          · rw [c4 73 (by decide), o6 5 (by decide), h73, h5, e39]
          · rw [c4 73 (by decide), s6, e6, nI_1, h38, ew3]
        have ccV : ∀ y, y < 160 → ¬ ((76 ≤ y ∧ y ≤ 84) ∨ y = 73) → I4 y = (hV2 I1 I3) y := fun y y1 y2 => by rw [hV2_lo y1, c4 y y1, fJ y y2]
        have hG4 : mG (hV2 I1 I3) I4 := by
          unfold mG
          rw [hV2_hi (by decide), hV2_hi (by decide), hV2_hi (by decide), hV2_hi (by decide), hV2_hi (by decide), hV2_hi (by decide), f4.1 189 (by decide) (by decide), f4.1 190 (by decide) (by decide), f4.1 191 (by decide) (by decide), f4.1 192 (by decide) (by decide), f4.1 197 (by decide) (by decide), f4.2 59 (by decide), f4.2 60 (by decide)]
          exact ⟨⟨rfl, rfl, rfl, rfl, rfl⟩, rfl, rfl⟩
        have ho4 : bOt (hV2 I1 I3) I4 3 := by
          intro y _
          rw [hV2_hi (by decide), hV2_hi (by decide), hV2_hi (by decide), hV2_hi (by decide), hV2_hi (by decide), hV2_hi (by decide), f4.1 199 (by decide) (by decide), f4.1 200 (by decide) (by decide), f4.1 201 (by decide) (by decide), f4.1 202 (by decide) (by decide), f4.1 203 (by decide) (by decide), f4.1 204 (by decide) (by decide)]
          exact ⟨rfl, rfl, rfl, fun _ _ => rfl, fun _ _ => rfl, fun _ _ => rfl⟩
        have e2 : I4 160 2 = (hV2 I1 I3) 160 2 := by rw [hV2_hi (by decide), f4.2 2 (by decide)]
        have e161 : I4 161 = (hV2 I1 I3) 161 := by rw [hV2_hi (by decide), f4.1 161 (by decide) (by decide)]
        have evt : vTp I4 = vTp (hV2 I1 I3) := by unfold vTp; rw [e2]
        have evT : vTt I4 = vTt (hV2 I1 I3) := by funext k; unfold vTt; rw [e161]
        refine ⟨rfl, hP1, Rn_i (Rl_mk RV eV ⟨S4, C4⟩ ⟨?_, ?_⟩ ?_ ⟨mG_H hG4 RV.2.1.2.2.2.1, by rw [hG4.2.2]; exact RV.2.1.2.2.2.2, sgR_c (mE_sg eV hG4 RV.2.2.2.2.2.2.2.1) (fun y y1 y2 => ccV y (by omega) (by omega))⟩ ⟨G, sc4⟩ (rBx_m (rBx_c hi RV.2.2.2.2.2.2.1 (ccV 89 (by decide) (by omega)) (ccV t (by omega) (by omega)) (fun y y1 y2 => ccV y (by omega) (by omega)) (fun _ _ => rfl)) eV ho4) (fun y y1 y2 => ccV y (by omega) (by omega)) (gK_c RV.2.2.2.2.2.2.2.2.1 RV.2.1.1.2.2.1.1 (fun y y1 y2 => ccV y (by omega) (by omega))) (fun _ _ => rfl) hP1 ⟨rfl, rfl⟩)⟩
        · unfold MTp; rw [evt, e2, e161]; exact RV.2.1.2.2.1
        · rw [evt, evT]; exact tpR_c RV.2.2.2.1 (ccV 1 (by decide) (by omega)) (ccV 2 (by decide) (by omega))
        · rw [ccV 17 (by decide) (by omega), f4.2 4 (by decide), f4.2 5 (by decide), RV.2.2.2.2.1.1, RV.2.2.2.2.1.2, hV2_hi (by decide)]; exact ⟨rfl, rfl⟩
end QK
