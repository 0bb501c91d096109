/-! ===== the model: who knows ===== -/
/-- p knows in w that r isn't 0 -/
def sKn (N : Nat) (po : Nat → Prop) (lk : Nat → Nat → Prop) (r : Nat → Int32) (w : Nat) : Prop := ∀ v, v < N → po v → lk w v → ¬ r v = 0
theorem sKn_c {N : Nat} {po po' : Nat → Prop} {lk lk' : Nat → Nat → Prop} {r r' : Nat → Int32} {w : Nat} (h1 : ∀ v, v < N → (po v ↔ po' v)) (h2 : ∀ v, v < N → po v → (lk w v ↔ lk' w v)) (h3 : ∀ v, v < N → po v → (r v = 0 ↔ r' v = 0)) : sKn N po lk r w ↔ sKn N po' lk' r' w := by
  unfold sKn
  constructor
  · intro h v hv hp hl q
    have hp' := (h1 v hv).mpr hp
    exact h v hv hp' ((h2 v hv hp').mpr hl) ((h3 v hv hp').mpr q)
  · intro h v hv hp hl q
    exact h v hv ((h1 v hv).mp hp) ((h2 v hv hp).mp hl) ((h3 v hv hp).mp q)
/-- the model's own bounds, all that the eyes need -/
def ME (I : zI) : Prop := MB I ∧ MS I ∧ MW I
theorem ME_fr {cs sl : List Nat} {I0 I : zI} (h : zFr cs sl I0 I) (h1 : 28 ∉ sl) (h2 : 163 ∉ cs) (h3 : 168 ∉ cs) (h4 : 38 ∉ sl) (h5 : 182 ∉ cs) (hm : ME I0) : ME I := ⟨MB_fr h h1 h2 hm.1, MS_fr h h1 h2 h3 hm.2.1, MW_fr h h4 h5 hm.2.2⟩
abbrev gw_X12_doesKnow (d : Nat) (Q : zQt) (pc : Nat) (lv : zV) (st : List Value) (I : zI) (L : zL) (P : zP) : Prop := zW zm_X12_doesKnow (zRm d 0 0) 0 0 Q pc lv st I L P 205 0 0
abbrev v_X12_doesKnow_3 (d : Nat) (Q : zQt) (p1 : Int32) (p2 : Int32) (p3 : Int32) (x4 : Int32) (I : zI) (L : zL) (P : zP) : Prop :=
  MB I ∧
  (((nI (vN I)) ≤ x4 →
    Q (some (.int 1)) I L P 205
  ) ∧ (¬ (nI (vN I)) ≤ x4 →
    vp_in x4 256 ∧
    (((I 180 x4.toNatClampNeg) = 0 →
      gw_X12_doesKnow (d + 1) Q 3 [some (.ref 160), some (.int p1), some (.int p2), some (.int p3), some (.int (x4 + 1))] [] I L P
    ) ∧ (¬ (I 180 x4.toNatClampNeg) = 0 →
      vp_in (p3 + x4) 12288 ∧
      ((¬ (I 183 (p3 + x4).toNatClampNeg) = 0 →
        gw_X12_doesKnow (d + 1) Q 3 [some (.ref 160), some (.int p1), some (.int p2), some (.int p3), some (.int (x4 + 1))] [] I L P
      ) ∧ ((I 183 (p3 + x4).toNatClampNeg) = 0 →
        zMi zm_X12_areLike d [.ref 160, .int p1, .int p2, .int x4] I L P (fun r13 I9 L10 P11 =>
          ((r13 = 0 →
            gw_X12_doesKnow (d + 1) Q 3 [some (.ref 160), some (.int p1), some (.int p2), some (.int p3), some (.int (x4 + 1))] [] I9 L10 P11
          ) ∧ (¬ r13 = 0 →
            Q (some (.int 0)) I9 L10 P11 205
          ))
        )
      ))
    ))
  ))
set_option maxRecDepth 20000 in
theorem g_X12_doesKnow_3 {d : Nat} {Q : zQt} {p1 : Int32} {p2 : Int32} {p3 : Int32} {x4 : Int32} {I : zI} {L : zL} {P : zP} (hP : zPk P) (hd : 1 ≤ d) (hv : v_X12_doesKnow_3 d Q p1 p2 p3 x4 I L P) : gw_X12_doesKnow (d + 1) Q 3 [some (.ref 160), some (.int p1), some (.int p2), some (.int p3), some (.int x4)] [] I L P := by
  unfold v_X12_doesKnow_3 at hv
  refine z_iload dX12_doesKnow_3 rfl ?_
  refine z_aload_n dX12_doesKnow_5 rfl ?_
  obtain ⟨h1, hv⟩ := hv
  refine z_callV (As := []) (st := [.int x4]) dX12_doesKnow_6 zl_X12_346 zv_X12_worldMany (by decide) rfl zn_160 zo_160 rfl rfl (Nat.le_of_ble_eq_true rfl) ⟨Nat.le_refl _, Nat.le_refl _⟩ ⟨Nat.le_refl _, Nat.le_refl _⟩ (sp_X12_worldMany hP h1 (by omega) (K := fun r I' L' P' => nI (vN I) = r ∧ I = I' ∧ L = L' ∧ P = P') ⟨rfl, rfl, rfl, rfl⟩) (fun v1 I2 L2 P2 nx1 q3 => ?_)
  obtain ⟨rfl, r2, rfl, rfl, rfl, rfl, rfl⟩ := q3
  refine z_icmp_ge (tgt := 53) dX12_doesKnow_9 (by decide) (fun q4 => ?_) (fun q4 => ?_)
  · have hv := hv.1 q4
    refine z_iconst (v := 1) dX12_doesKnow_53 (by decide) ?_
    exact z_ireturn dX12_doesKnow_54 rfl (by decide) (Nat.le_refl _) (Nat.le_refl _) hv
  · have hv := hv.2 q4
    refine z_aload_n dX12_doesKnow_12 rfl ?_
    refine z_getP dX12_doesKnow_13 zf_X12_74 zn_160 zo_160 (fun _ _ _ _ _ => rfl) (hP 160 35 180 zp_160_35) ?_
    refine z_iload dX12_doesKnow_16 rfl ?_
    obtain ⟨h5, hv⟩ := hv
    refine z_zaload dX12_doesKnow_18 zn_180 zh_180 h5 ?_
    refine z_if_eq (tgt := 47) dX12_doesKnow_19 (by decide) (fun q6 => ?_) (fun q6 => ?_)
    · have hv := hv.1 q6
      refine z_iinc (v2 := x4 + 1) (lv2 := [some (.ref 160), some (.int p1), some (.int p2), some (.int p3), some (.int (x4 + 1))]) dX12_doesKnow_47 rfl (by rfl) (by decide) rfl rfl ?_
      refine z_goto (tgt := 3) dX12_doesKnow_50 (by decide) ?_
      exact hv
    · have hv := hv.2 q6
      refine z_aload_n dX12_doesKnow_22 rfl ?_
      refine z_getP dX12_doesKnow_23 zf_X12_83 zn_160 zo_160 (fun _ _ _ _ _ => rfl) (hP 160 41 183 zp_160_41) ?_
      refine z_iload_n dX12_doesKnow_26 rfl ?_
      refine z_iload dX12_doesKnow_27 rfl ?_
      refine z_iadd dX12_doesKnow_29 ?_
      obtain ⟨h7, hv⟩ := hv
      refine z_iaload dX12_doesKnow_30 zn_183 zh_183 h7 ?_
      refine z_if_ne (tgt := 47) dX12_doesKnow_31 (by decide) (fun q8 => ?_) (fun q8 => ?_)
      · have hv := hv.1 q8
        refine z_iinc (v2 := x4 + 1) (lv2 := [some (.ref 160), some (.int p1), some (.int p2), some (.int p3), some (.int (x4 + 1))]) dX12_doesKnow_47 rfl (by rfl) (by decide) rfl rfl ?_
        refine z_goto (tgt := 3) dX12_doesKnow_50 (by decide) ?_
        exact hv
      · have hv := hv.2 q8
        refine z_aload_n dX12_doesKnow_34 rfl ?_
        refine z_iload_n dX12_doesKnow_35 rfl ?_
        refine z_iload_n dX12_doesKnow_36 rfl ?_
        refine z_iload dX12_doesKnow_37 rfl ?_
        refine z_callV (As := [.int p1, .int p2, .int x4]) (st := []) dX12_doesKnow_39 zl_X12_371 zv_X12_areLike (by decide) rfl zn_160 zo_160 rfl rfl (Nat.le_of_ble_eq_true rfl) ⟨Nat.le_refl _, Nat.le_refl _⟩ ⟨Nat.le_refl _, Nat.le_refl _⟩ hv (fun v1 I9 L10 P11 nx1 q12 => ?_)
        obtain ⟨rfl, r13, rfl, hv⟩ := q12
        refine z_if_eq (tgt := 47) dX12_doesKnow_42 (by decide) (fun q14 => ?_) (fun q14 => ?_)
        · have hv := hv.1 q14
          refine z_iinc (v2 := x4 + 1) (lv2 := [some (.ref 160), some (.int p1), some (.int p2), some (.int p3), some (.int (x4 + 1))]) dX12_doesKnow_47 rfl (by rfl) (by decide) rfl rfl ?_
          refine z_goto (tgt := 3) dX12_doesKnow_50 (by decide) ?_
          exact hv
        · have hv := hv.2 q14
          refine z_iconst (v := 0) dX12_doesKnow_45 (by decide) ?_
          exact z_ireturn dX12_doesKnow_46 rfl (by decide) (Nat.le_refl _) (Nat.le_refl _) hv
abbrev v_X12_doesKnow (d : Nat) (Q : zQt) (p1 : Int32) (p2 : Int32) (p3 : Int32) (I : zI) (L : zL) (P : zP) : Prop :=
  gw_X12_doesKnow (d + 1) Q 3 [some (.ref 160), some (.int p1), some (.int p2), some (.int p3), some (.int 0)] [] I L P
set_option maxRecDepth 20000 in
theorem g_X12_doesKnow {d : Nat} {Q : zQt} {p1 : Int32} {p2 : Int32} {p3 : Int32} {I : zI} {L : zL} {P : zP} (hP : zPk P) (hd : 1 ≤ d) (hv : v_X12_doesKnow d Q p1 p2 p3 I L P) : zM zm_X12_doesKnow (d + 1) 0 0 [.ref 160, .int p1, .int p2, .int p3] I L P 205 Q := by
  unfold v_X12_doesKnow at hv
  refine zM_of (lv0 := [some (.ref 160), some (.int p1), some (.int p2), some (.int p3), none]) (by decide +kernel) (Nat.le_of_ble_eq_true rfl) rfl ?_
  refine z_iconst (v := 0) dX12_doesKnow_0 (by decide) ?_
  refine z_istore (lv2 := [some (.ref 160), some (.int p1), some (.int p2), some (.int p3), some (.int 0)]) dX12_doesKnow_1 (by decide) rfl rfl ?_
  exact hv
theorem lp_X12_doesKnow {d : Nat} {Q : zQt} {I : zI} {L : zL} {P : zP} {p w row : Nat} (hP : zPk P) (hE : ME I) (hp : p < vNp I) (hw : w < vN I) (hr : row + 256 ≤ 12288) (hd : 3 ≤ d) (k : Q (some (.int (bP (sKn (vN I) (vPoss I) (vLike I p) (fun v => I 183 (row + v)) w)))) I L P 205) :
    ∀ n i, i + n = vN I → (∀ v, v < i → vPoss I v → vLike I p w v → ¬ I 183 (row + v) = 0) →
      gw_X12_doesKnow (d + 1) Q 3 [some (.ref 160), some (.int (nI p)), some (.int (nI w)), some (.int (nI row)), some (.int (nI i))] [] I L P := by
  have hN := vN_le hE.1
  intro n
  induction n with
  | zero =>
    intro i hi hj
    refine g_X12_doesKnow_3 hP (by omega) ⟨hE.1, fun _ => ?_, fun q => absurd (nI_le (by omega) (by omega)) q⟩
    rwa [bP_t (p := sKn (vN I) (vPoss I) (vLike I p) (fun v => I 183 (row + v)) w) (fun v hv => hj v (by omega))] at k
  | succ n ih =>
    intro i hi hj
    have step : ¬ (vPoss I i ∧ vLike I p w i ∧ I 183 (row + i) = 0) → gw_X12_doesKnow (d + 1) Q 3 [some (.ref 160), some (.int (nI p)), some (.int (nI w)), some (.int (nI row)), some (.int (nI i + 1))] [] I L P := by
      intro hc
      rw [nI_1]
      refine ih (i + 1) (by omega) (fun v hv hp hl hz => ?_)
      rcases Nat.lt_succ_iff_lt_or_eq.mp hv with h | h
      · exact hj v h hp hl hz
      · subst h; exact hc ⟨hp, hl, hz⟩
    have er : nI row + nI i = nI (row + i) := nI_add _ _
    refine g_X12_doesKnow_3 hP (by omega) ⟨hE.1, fun q => absurd q (nI_ge (by omega) (by omega)), fun _ => ⟨nx_in (by omega) (by decide), fun q => step ?_, fun q => ⟨by rw [er]; exact nx_in (by omega) (by decide), fun q2 => step ?_, fun q2 => ?_⟩⟩⟩
    · rw [nI_cl (by omega)] at q
      exact fun h => h.1 q
    · rw [er, nI_cl (by omega)] at q2
      exact fun h => q2 h.2.2
    · rw [er, nI_cl (by omega)] at q2
      rw [nI_cl (by omega)] at q
      refine sp_X12_areLike hP hE.1 hE.2.1 hE.2.2 hp (by omega) (by omega) (by omega) ⟨fun q3 => step ?_, fun q3 => ?_⟩
      · rw [bP_0] at q3
        exact fun h => q3 h.2.1
      · rw [bP_n] at q3
        rwa [bP_f (fun h => h i (by omega) q q3 q2)] at k
theorem sp_X12_doesKnow {d : Nat} {I : zI} {L : zL} {P : zP} {p w row : Nat} (hP : zPk P) (hE : ME I) (hp : p < vNp I) (hw : w < vN I) (hr : row + 256 ≤ 12288) (hd : 4 ≤ d) {K : Int32 → zI → zL → zP → Prop} (k : K (bP (sKn (vN I) (vPoss I) (vLike I p) (fun v => I 183 (row + v)) w)) I L P) : zMi zm_X12_doesKnow d [.ref 160, .int (nI p), .int (nI w), .int (nI row)] I L P K := by
  obtain ⟨d, rfl⟩ : ∃ e, d = e + 1 := ⟨d - 1, by omega⟩
  exact g_X12_doesKnow hP (by omega) (lp_X12_doesKnow hP hE hp hw hr (by omega) (qi k) (vN I) 0 (by omega) (fun v hv => absurd hv (Nat.not_lt_zero v)))
abbrev gw_X12_knowsOf (d : Nat) (Q : zQt) (pc : Nat) (lv : zV) (st : List Value) (I : zI) (L : zL) (P : zP) : Prop := zW zm_X12_knowsOf (zRm d 0 0) 0 0 Q pc lv st I L P 205 0 0
abbrev v_X12_knowsOf_48 (d : Nat) (Q : zQt) (p2 : Int32) (x3 : Int32) (I : zI) (L : zL) (P : zP) : Prop :=
  MB I ∧
  (((nI (vN I)) ≤ x3 →
    Q none I L P 205
  ) ∧ (¬ (nI (vN I)) ≤ x3 →
    vp_in x3 256 ∧
    vp_in (p2 + x3) 12288 ∧
    ∀ I26 : zI, I26 = zuI I 183 (p2 + x3).toNatClampNeg (I 185 x3.toNatClampNeg) →
    gw_X12_knowsOf (d + 1) Q 48 [some (.ref 160), none, some (.int p2), some (.int (x3 + 1))] [] I26 L P
  ))
set_option maxRecDepth 20000 in
theorem g_X12_knowsOf_48 {d : Nat} {Q : zQt} {p2 : Int32} {x3 : Int32} {I : zI} {L : zL} {P : zP} (hP : zPk P) (hd : 1 ≤ d) (hv : v_X12_knowsOf_48 d Q p2 x3 I L P) : gw_X12_knowsOf (d + 1) Q 48 [some (.ref 160), none, some (.int p2), some (.int x3)] [] I L P := by
  unfold v_X12_knowsOf_48 at hv
  refine z_iload_n dX12_knowsOf_48 rfl ?_
  refine z_aload_n dX12_knowsOf_49 rfl ?_
  obtain ⟨h19, hv⟩ := hv
  refine z_callV (As := []) (st := [.int x3]) dX12_knowsOf_50 zl_X12_346 zv_X12_worldMany (by decide) rfl zn_160 zo_160 rfl rfl (Nat.le_of_ble_eq_true rfl) ⟨Nat.le_refl _, Nat.le_refl _⟩ ⟨Nat.le_refl _, Nat.le_refl _⟩ (sp_X12_worldMany hP h19 (by omega) (K := fun r I' L' P' => nI (vN I) = r ∧ I = I' ∧ L = L' ∧ P = P') ⟨rfl, rfl, rfl, rfl⟩) (fun v1 I2 L2 P2 nx1 q21 => ?_)
  obtain ⟨rfl, r20, rfl, rfl, rfl, rfl, rfl⟩ := q21
  refine z_icmp_ge (tgt := 76) dX12_knowsOf_53 (by decide) (fun q22 => ?_) (fun q22 => ?_)
  · have hv := hv.1 q22
    exact z_return dX12_knowsOf_76 rfl (Nat.le_refl _) (Nat.le_refl _) hv
  · have hv := hv.2 q22
    refine z_aload_n dX12_knowsOf_56 rfl ?_
    refine z_getP dX12_knowsOf_57 zf_X12_83 zn_160 zo_160 (fun _ _ _ _ _ => rfl) (hP 160 41 183 zp_160_41) ?_
    refine z_iload_n dX12_knowsOf_60 rfl ?_
    refine z_iload_n dX12_knowsOf_61 rfl ?_
    refine z_iadd dX12_knowsOf_62 ?_
    refine z_aload_n dX12_knowsOf_63 rfl ?_
    refine z_getP dX12_knowsOf_64 zf_X12_89 zn_160 zo_160 (fun _ _ _ _ _ => rfl) (hP 160 43 185 zp_160_43) ?_
    refine z_iload_n dX12_knowsOf_67 rfl ?_
    obtain ⟨h23, hv⟩ := hv
    refine z_iaload dX12_knowsOf_68 zn_185 zh_185 h23 ?_
    obtain ⟨h24, hv⟩ := hv
    refine z_iastore dX12_knowsOf_69 zn_183 zh_183 h24 (z_nmI (fun I26 e25 => ?_))
    have hv := hv I26 e25
    refine z_iinc (v2 := x3 + 1) (lv2 := [some (.ref 160), none, some (.int p2), some (.int (x3 + 1))]) dX12_knowsOf_70 rfl (by rfl) (by decide) rfl rfl ?_
    refine z_goto (tgt := 48) dX12_knowsOf_73 (by decide) ?_
    exact hv
abbrev v_X12_knowsOf_2 (d : Nat) (Q : zQt) (p1 : Int32) (p2 : Int32) (x3 : Int32) (I : zI) (L : zL) (P : zP) : Prop :=
  MB I ∧
  (((nI (vN I)) ≤ x3 →
    gw_X12_knowsOf (d + 1) Q 48 [some (.ref 160), none, some (.int p2), some (.int 0)] [] I L P
  ) ∧ (¬ (nI (vN I)) ≤ x3 →
    vp_in x3 256 ∧
    (((I 180 x3.toNatClampNeg) = 0 →
      ∀ I8 : zI, I8 = zuI I 185 x3.toNatClampNeg 0 →
      gw_X12_knowsOf (d + 1) Q 2 [some (.ref 160), some (.int p1), some (.int p2), some (.int (x3 + 1))] [] I8 L P
    ) ∧ (¬ (I 180 x3.toNatClampNeg) = 0 →
      zMi zm_X12_doesKnow d [.ref 160, .int p1, .int x3, .int p2] I L P (fun r13 I9 L10 P11 =>
        ((r13 = 0 →
          ∀ I16 : zI, I16 = zuI I9 185 x3.toNatClampNeg 0 →
          gw_X12_knowsOf (d + 1) Q 2 [some (.ref 160), some (.int p1), some (.int p2), some (.int (x3 + 1))] [] I16 L10 P11
        ) ∧ (¬ r13 = 0 →
          ∀ I18 : zI, I18 = zuI I9 185 x3.toNatClampNeg 1 →
          gw_X12_knowsOf (d + 1) Q 2 [some (.ref 160), some (.int p1), some (.int p2), some (.int (x3 + 1))] [] I18 L10 P11
        ))
      )
    ))
  ))
set_option maxRecDepth 20000 in
theorem g_X12_knowsOf_2 {d : Nat} {Q : zQt} {p1 : Int32} {p2 : Int32} {x3 : Int32} {I : zI} {L : zL} {P : zP} (hP : zPk P) (hd : 1 ≤ d) (hv : v_X12_knowsOf_2 d Q p1 p2 x3 I L P) : gw_X12_knowsOf (d + 1) Q 2 [some (.ref 160), some (.int p1), some (.int p2), some (.int x3)] [] I L P := by
  unfold v_X12_knowsOf_2 at hv
  refine z_iload_n dX12_knowsOf_2 rfl ?_
  refine z_aload_n dX12_knowsOf_3 rfl ?_
  obtain ⟨h1, hv⟩ := hv
  refine z_callV (As := []) (st := [.int x3]) dX12_knowsOf_4 zl_X12_346 zv_X12_worldMany (by decide) rfl zn_160 zo_160 rfl rfl (Nat.le_of_ble_eq_true rfl) ⟨Nat.le_refl _, Nat.le_refl _⟩ ⟨Nat.le_refl _, Nat.le_refl _⟩ (sp_X12_worldMany hP h1 (by omega) (K := fun r I' L' P' => nI (vN I) = r ∧ I = I' ∧ L = L' ∧ P = P') ⟨rfl, rfl, rfl, rfl⟩) (fun v1 I2 L2 P2 nx1 q3 => ?_)
  obtain ⟨rfl, r2, rfl, rfl, rfl, rfl, rfl⟩ := q3
  refine z_icmp_ge (tgt := 46) dX12_knowsOf_7 (by decide) (fun q4 => ?_) (fun q4 => ?_)
  · have hv := hv.1 q4
    refine z_iconst (v := 0) dX12_knowsOf_46 (by decide) ?_
    refine z_istore_n (lv2 := [some (.ref 160), some (.int p1), some (.int p2), some (.int 0)]) dX12_knowsOf_47 (by decide) rfl rfl ?_
    exact z_sub (by exact ⟨rfl, ⟨rfl, ⟨rfl, trivial⟩⟩⟩) hv
  · have hv := hv.2 q4
    refine z_aload_n dX12_knowsOf_10 rfl ?_
    refine z_getP dX12_knowsOf_11 zf_X12_89 zn_160 zo_160 (fun _ _ _ _ _ => rfl) (hP 160 43 185 zp_160_43) ?_
    refine z_iload_n dX12_knowsOf_14 rfl ?_
    refine z_aload_n dX12_knowsOf_15 rfl ?_
    refine z_getP dX12_knowsOf_16 zf_X12_74 zn_160 zo_160 (fun _ _ _ _ _ => rfl) (hP 160 35 180 zp_160_35) ?_
    refine z_iload_n dX12_knowsOf_19 rfl ?_
    obtain ⟨h5, hv⟩ := hv
    refine z_zaload dX12_knowsOf_20 zn_180 zh_180 h5 ?_
    refine z_if_eq (tgt := 38) dX12_knowsOf_21 (by decide) (fun q6 => ?_) (fun q6 => ?_)
    · have hv := hv.1 q6
      refine z_iconst (v := 0) dX12_knowsOf_38 (by decide) ?_
      refine z_iastore dX12_knowsOf_39 zn_185 zh_185 h5 (z_nmI (fun I8 e7 => ?_))
      have hv := hv I8 e7
      refine z_iinc (v2 := x3 + 1) (lv2 := [some (.ref 160), some (.int p1), some (.int p2), some (.int (x3 + 1))]) dX12_knowsOf_40 rfl (by rfl) (by decide) rfl rfl ?_
      refine z_goto (tgt := 2) dX12_knowsOf_43 (by decide) ?_
      exact hv
    · have hv := hv.2 q6
      refine z_aload_n dX12_knowsOf_24 rfl ?_
      refine z_iload_n dX12_knowsOf_25 rfl ?_
      refine z_iload_n dX12_knowsOf_26 rfl ?_
      refine z_iload_n dX12_knowsOf_27 rfl ?_
      refine z_callV (As := [.int p1, .int x3, .int p2]) (st := [.int x3, .ref 185]) dX12_knowsOf_28 zl_X12_374 zv_X12_doesKnow (by decide) rfl zn_160 zo_160 rfl rfl (Nat.le_of_ble_eq_true rfl) ⟨Nat.le_refl _, Nat.le_refl _⟩ ⟨Nat.le_refl _, Nat.le_refl _⟩ hv (fun v1 I9 L10 P11 nx1 q12 => ?_)
      obtain ⟨rfl, r13, rfl, hv⟩ := q12
      refine z_if_eq (tgt := 38) dX12_knowsOf_31 (by decide) (fun q14 => ?_) (fun q14 => ?_)
      · have hv := hv.1 q14
        refine z_iconst (v := 0) dX12_knowsOf_38 (by decide) ?_
        refine z_iastore dX12_knowsOf_39 zn_185 zh_185 h5 (z_nmI (fun I16 e15 => ?_))
        have hv := hv I16 e15
        refine z_iinc (v2 := x3 + 1) (lv2 := [some (.ref 160), some (.int p1), some (.int p2), some (.int (x3 + 1))]) dX12_knowsOf_40 rfl (by rfl) (by decide) rfl rfl ?_
        refine z_goto (tgt := 2) dX12_knowsOf_43 (by decide) ?_
        exact hv
      · have hv := hv.2 q14
        refine z_iconst (v := 1) dX12_knowsOf_34 (by decide) ?_
        refine z_goto (tgt := 39) dX12_knowsOf_35 (by decide) ?_
        refine z_iastore dX12_knowsOf_39 zn_185 zh_185 h5 (z_nmI (fun I18 e17 => ?_))
        have hv := hv I18 e17
        refine z_iinc (v2 := x3 + 1) (lv2 := [some (.ref 160), some (.int p1), some (.int p2), some (.int (x3 + 1))]) dX12_knowsOf_40 rfl (by rfl) (by decide) rfl rfl ?_
        refine z_goto (tgt := 2) dX12_knowsOf_43 (by decide) ?_
        exact hv
abbrev v_X12_knowsOf (d : Nat) (Q : zQt) (p1 : Int32) (p2 : Int32) (I : zI) (L : zL) (P : zP) : Prop :=
  gw_X12_knowsOf (d + 1) Q 2 [some (.ref 160), some (.int p1), some (.int p2), some (.int 0)] [] I L P
set_option maxRecDepth 20000 in
theorem g_X12_knowsOf {d : Nat} {Q : zQt} {p1 : Int32} {p2 : Int32} {I : zI} {L : zL} {P : zP} (hP : zPk P) (hd : 1 ≤ d) (hv : v_X12_knowsOf d Q p1 p2 I L P) : zM zm_X12_knowsOf (d + 1) 0 0 [.ref 160, .int p1, .int p2] I L P 205 Q := by
  unfold v_X12_knowsOf at hv
  refine zM_of (lv0 := [some (.ref 160), some (.int p1), some (.int p2), none]) (by decide +kernel) (Nat.le_of_ble_eq_true rfl) rfl ?_
  refine z_iconst (v := 0) dX12_knowsOf_0 (by decide) ?_
  refine z_istore_n (lv2 := [some (.ref 160), some (.int p1), some (.int p2), some (.int 0)]) dX12_knowsOf_1 (by decide) rfl rfl ?_
  exact hv
/-- the row at a place of the pile -/
def vRow (I : zI) (row : Nat) : Nat → Int32 := fun w => I 183 (row + w)
theorem lp_X12_knowsOf_48 {d : Nat} {Q : zQt} {I0 : zI} {L : zL} {P : zP} {row : Nat} (hP : zPk P) (hE : ME I0) (hr : row + 256 ≤ 12288) (hd : 3 ≤ d)
    (k : ∀ I, zFr [183] [] I0 I → (∀ j, ¬ (row ≤ j ∧ j < row + vN I0) → I 183 j = I0 183 j) → (∀ w, w < vN I0 → I 183 (row + w) = I0 185 w) → Q none I L P 205) :
    ∀ n i I, i + n = vN I0 → zFr [183] [] I0 I → (∀ j, ¬ (row ≤ j ∧ j < row + i) → I 183 j = I0 183 j) → (∀ w, w < i → I 183 (row + w) = I0 185 w) →
      gw_X12_knowsOf (d + 1) Q 48 [some (.ref 160), none, some (.int (nI row)), some (.int (nI i))] [] I L P := by
  have hN := vN_le hE.1
  intro n
  induction n with
  | zero =>
    intro i I hi hf h1 h2
    have hi2 : i = vN I0 := by omega
    subst hi2
    have eN := vN_fr hf (by decide) (by decide)
    refine g_X12_knowsOf_48 hP (by omega) ⟨(ME_fr hf (by decide) (by decide) (by decide) (by decide) (by decide) hE).1, fun _ => k I hf h1 h2, fun q => absurd (by rw [eN]; exact nI_le (Nat.le_refl _) (by omega)) q⟩
  | succ n ih =>
    intro i I hi hf h1 h2
    have eN := vN_fr hf (by decide) (by decide)
    have er : nI row + nI i = nI (row + i) := nI_add _ _
    refine g_X12_knowsOf_48 hP (by omega) ⟨(ME_fr hf (by decide) (by decide) (by decide) (by decide) (by decide) hE).1, fun q => absurd q (by rw [eN]; exact nI_ge (by omega) (by omega)), fun _ => ⟨nx_in (by omega) (by decide), by rw [er]; exact nx_in (by omega) (by decide), fun I1 e1 => ?_⟩⟩
    rw [er, nI_cl (by omega), nI_cl (by omega), hf.1 185 (by decide) (by decide)] at e1
    subst e1
    rw [nI_1]
    refine ih (i + 1) _ (by omega) (zFr_c hf (by decide) (by decide)) (fun j hj => ?_) (fun w hw => ?_)
    · rw [zuI_o (by omega)]
      exact h1 j (by omega)
    · rcases Nat.lt_succ_iff_lt_or_eq.mp hw with h | h
      · rw [zuI_o (by omega)]; exact h2 w h
      · subst h; exact zuI_v _ _ _ _
theorem lp_X12_knowsOf_2 {d : Nat} {Q : zQt} {I0 : zI} {L : zL} {P : zP} {p row : Nat} (hP : zPk P) (hE : ME I0) (hp : p < vNp I0) (hr : row + 256 ≤ 12288) (hd : 4 ≤ d)
    (k : ∀ I, zFr [183, 185] [] I0 I → (∀ j, ¬ (row ≤ j ∧ j < row + vN I0) → I 183 j = I0 183 j) → (∀ w, w < vN I0 → I 183 (row + w) = bP (vPoss I0 w ∧ sKn (vN I0) (vPoss I0) (vLike I0 p) (vRow I0 row) w)) → Q none I L P 205) :
    ∀ n i I, i + n = vN I0 → zFr [185] [] I0 I → (∀ w, w < i → I 185 w = bP (vPoss I0 w ∧ sKn (vN I0) (vPoss I0) (vLike I0 p) (vRow I0 row) w)) →
      gw_X12_knowsOf (d + 1) Q 2 [some (.ref 160), some (.int (nI p)), some (.int (nI row)), some (.int (nI i))] [] I L P := by
  have hN := vN_le hE.1
  intro n
  induction n with
  | zero =>
    intro i I hi hf h2
    have hi2 : i = vN I0 := by omega
    subst hi2
    have eN := vN_fr hf (by decide) (by decide)
    have hE2 := ME_fr hf (by decide) (by decide) (by decide) (by decide) (by decide) hE
    refine g_X12_knowsOf_2 hP (by omega) ⟨hE2.1, fun _ => ?_, fun q => absurd (by rw [eN]; exact nI_le (Nat.le_refl _) (by omega)) q⟩
    refine lp_X12_knowsOf_48 hP hE2 hr (by omega) (fun I1 g1 g2 g3 => k I1 ?_ ?_ ?_) (vN I) 0 I (by omega) (zFr_rf _ _ _) (fun _ _ => rfl) (fun w hw => absurd hw (Nat.not_lt_zero w))
    · exact zFr_tr (zFr_wk hf (by decide) (by decide)) (zFr_wk g1 (by decide) (by decide))
    · intro j hj
      rw [g2 j (by rw [eN]; exact hj), hf.1 183 (by decide) (by decide)]
    · intro w hw
      rw [g3 w (by rw [eN]; exact hw), h2 w hw]
  | succ n ih =>
    intro i I hi hf h2
    have eN := vN_fr hf (by decide) (by decide)
    have eP := vNp_fr hf (by decide) (by decide)
    have hE2 := ME_fr hf (by decide) (by decide) (by decide) (by decide) (by decide) hE
    have e180 : I 180 = I0 180 := hf.1 180 (by decide) (by decide)
    have e183 : I 183 = I0 183 := hf.1 183 (by decide) (by decide)
    have step : ∀ v : Int32, v = bP (vPoss I0 i ∧ sKn (vN I0) (vPoss I0) (vLike I0 p) (vRow I0 row) i) → ∀ I1, I1 = zuI I 185 (nI i).toNatClampNeg v → gw_X12_knowsOf (d + 1) Q 2 [some (.ref 160), some (.int (nI p)), some (.int (nI row)), some (.int (nI i + 1))] [] I1 L P := by
      intro v hv I1 e1
      rw [nI_cl (by omega)] at e1
      subst e1
      rw [nI_1]
      refine ih (i + 1) _ (by omega) (zFr_c hf (by decide) (by decide)) (fun w hw => ?_)
      rcases Nat.lt_succ_iff_lt_or_eq.mp hw with h | h
      · rw [zuI_o (by omega)]; exact h2 w h
      · subst h; rw [zuI_v]; exact hv
    refine g_X12_knowsOf_2 hP (by omega) ⟨hE2.1, fun q => absurd q (by rw [eN]; exact nI_ge (by omega) (by omega)), fun _ => ⟨nx_in (by omega) (by decide), fun q => step 0 ?_, fun q => ?_⟩⟩
    · rw [nI_cl (by omega), e180] at q
      exact (bP_f (fun h => h.1 q)).symm
    · rw [nI_cl (by omega), e180] at q
      refine sp_X12_doesKnow hP hE2 (by omega) (by omega) hr (by omega) ?_
      have ek : sKn (vN I) (vPoss I) (vLike I p) (fun v => I 183 (row + v)) i ↔ sKn (vN I0) (vPoss I0) (vLike I0 p) (vRow I0 row) i := by
        rw [eN]
        refine sKn_c (fun v _ => by unfold vPoss; rw [e180]) (fun v _ _ => by rw [vLike_fr hf (by decide) (by decide) (by decide) (by decide) (by decide) (by decide)]) (fun v _ _ => by unfold vRow; rw [e183])
      rw [bP_c ek]
      refine ⟨fun q2 => step 0 ?_, fun q2 => step 1 ?_⟩
      · rw [bP_0] at q2
        exact (bP_f (fun h => q2 h.2)).symm
      · rw [bP_n] at q2
        exact (bP_t ⟨q, q2⟩).symm
theorem sp_X12_knowsOf {d : Nat} {I : zI} {L : zL} {P : zP} {p row : Nat} (hP : zPk P) (hE : ME I) (hp : p < vNp I) (hr : row + 256 ≤ 12288) (hd : 5 ≤ d) {K : zI → zL → zP → Prop}
    (k : ∀ I', zFr [183, 185] [] I I' → (∀ j, ¬ (row ≤ j ∧ j < row + vN I) → I' 183 j = I 183 j) → (∀ w, w < vN I → I' 183 (row + w) = bP (vPoss I w ∧ sKn (vN I) (vPoss I) (vLike I p) (vRow I row) w)) → K I' L P) : zMv zm_X12_knowsOf d [.ref 160, .int (nI p), .int (nI row)] I L P K := by
  obtain ⟨d, rfl⟩ : ∃ e, d = e + 1 := ⟨d - 1, by omega⟩
  exact g_X12_knowsOf hP (by omega) (lp_X12_knowsOf_2 hP hE hp hr (by omega) (fun I' a b c => qv (k I' a b c)) (vN I) 0 I (by omega) (zFr_rf _ _ _) (fun w hw => absurd hw (Nat.not_lt_zero w)))
abbrev gw_X12_allKnow (d : Nat) (Q : zQt) (pc : Nat) (lv : zV) (st : List Value) (I : zI) (L : zL) (P : zP) : Prop := zW zm_X12_allKnow (zRm d 0 0) 0 0 Q pc lv st I L P 205 0 0
abbrev v_X12_allKnow_71 (d : Nat) (Q : zQt) (p1 : Int32) (x2 : Int32) (I : zI) (L : zL) (P : zP) : Prop :=
  MB I ∧
  (((nI (vN I)) ≤ x2 →
    Q none I L P 205
  ) ∧ (¬ (nI (vN I)) ≤ x2 →
    vp_in x2 256 ∧
    vp_in (p1 + x2) 12288 ∧
    ∀ I13 : zI, I13 = zuI I 183 (p1 + x2).toNatClampNeg (I 185 x2.toNatClampNeg) →
    gw_X12_allKnow (d + 1) Q 71 [some (.ref 160), some (.int p1), some (.int (x2 + 1)), none, none] [] I13 L P
  ))
set_option maxRecDepth 20000 in
theorem g_X12_allKnow_71 {d : Nat} {Q : zQt} {p1 : Int32} {x2 : Int32} {I : zI} {L : zL} {P : zP} (hP : zPk P) (hd : 1 ≤ d) (hv : v_X12_allKnow_71 d Q p1 x2 I L P) : gw_X12_allKnow (d + 1) Q 71 [some (.ref 160), some (.int p1), some (.int x2), none, none] [] I L P := by
  unfold v_X12_allKnow_71 at hv
  refine z_iload_n dX12_allKnow_71 rfl ?_
  refine z_aload_n dX12_allKnow_72 rfl ?_
  obtain ⟨h6, hv⟩ := hv
  refine z_callV (As := []) (st := [.int x2]) dX12_allKnow_73 zl_X12_346 zv_X12_worldMany (by decide) rfl zn_160 zo_160 rfl rfl (Nat.le_of_ble_eq_true rfl) ⟨Nat.le_refl _, Nat.le_refl _⟩ ⟨Nat.le_refl _, Nat.le_refl _⟩ (sp_X12_worldMany hP h6 (by omega) (K := fun r I' L' P' => nI (vN I) = r ∧ I = I' ∧ L = L' ∧ P = P') ⟨rfl, rfl, rfl, rfl⟩) (fun v1 I2 L2 P2 nx1 q8 => ?_)
  obtain ⟨rfl, r7, rfl, rfl, rfl, rfl, rfl⟩ := q8
  refine z_icmp_ge (tgt := 99) dX12_allKnow_76 (by decide) (fun q9 => ?_) (fun q9 => ?_)
  · have hv := hv.1 q9
    exact z_return dX12_allKnow_99 rfl (Nat.le_refl _) (Nat.le_refl _) hv
  · have hv := hv.2 q9
    refine z_aload_n dX12_allKnow_79 rfl ?_
    refine z_getP dX12_allKnow_80 zf_X12_83 zn_160 zo_160 (fun _ _ _ _ _ => rfl) (hP 160 41 183 zp_160_41) ?_
    refine z_iload_n dX12_allKnow_83 rfl ?_
    refine z_iload_n dX12_allKnow_84 rfl ?_
    refine z_iadd dX12_allKnow_85 ?_
    refine z_aload_n dX12_allKnow_86 rfl ?_
    refine z_getP dX12_allKnow_87 zf_X12_89 zn_160 zo_160 (fun _ _ _ _ _ => rfl) (hP 160 43 185 zp_160_43) ?_
    refine z_iload_n dX12_allKnow_90 rfl ?_
    obtain ⟨h10, hv⟩ := hv
    refine z_iaload dX12_allKnow_91 zn_185 zh_185 h10 ?_
    obtain ⟨h11, hv⟩ := hv
    refine z_iastore dX12_allKnow_92 zn_183 zh_183 h11 (z_nmI (fun I13 e12 => ?_))
    have hv := hv I13 e12
    refine z_iinc (v2 := x2 + 1) (lv2 := [some (.ref 160), some (.int p1), some (.int (x2 + 1)), none, none]) dX12_allKnow_93 rfl (by rfl) (by decide) rfl rfl ?_
    refine z_goto (tgt := 71) dX12_allKnow_96 (by decide) ?_
    exact hv
abbrev v_X12_allKnow_20 (d : Nat) (Q : zQt) (p1 : Int32) (x2 : Int32) (x3 : Int32) (x4 : Int32) (I : zI) (L : zL) (P : zP) : Prop :=
  MB I ∧
  (((nI (vNp I)) ≤ x4 →
    ((x3 = 0 →
      vp_in x2 256 ∧
      ∀ I21 : zI, I21 = zuI I 185 x2.toNatClampNeg 0 →
      gw_X12_allKnow (d + 1) Q 2 [some (.ref 160), some (.int p1), some (.int (x2 + 1)), none, none] [] I21 L P
    ) ∧ (¬ x3 = 0 →
      vp_in x2 256 ∧
      ∀ I24 : zI, I24 = zuI I 185 x2.toNatClampNeg 1 →
      gw_X12_allKnow (d + 1) Q 2 [some (.ref 160), some (.int p1), some (.int (x2 + 1)), none, none] [] I24 L P
    ))
  ) ∧ (¬ (nI (vNp I)) ≤ x4 →
    ((x3 = 0 →
      vp_in x2 256 ∧
      ∀ I29 : zI, I29 = zuI I 185 x2.toNatClampNeg 0 →
      gw_X12_allKnow (d + 1) Q 2 [some (.ref 160), some (.int p1), some (.int (x2 + 1)), none, none] [] I29 L P
    ) ∧ (¬ x3 = 0 →
      zMi zm_X12_doesKnow d [.ref 160, .int x4, .int x2, .int p1] I L P (fun r34 I30 L31 P32 =>
        gw_X12_allKnow (d + 1) Q 20 [some (.ref 160), some (.int p1), some (.int x2), some (.int r34), some (.int (x4 + 1))] [] I30 L31 P32
      )
    ))
  ))
set_option maxRecDepth 20000 in
theorem g_X12_allKnow_20 {d : Nat} {Q : zQt} {p1 : Int32} {x2 : Int32} {x3 : Int32} {x4 : Int32} {I : zI} {L : zL} {P : zP} (hP : zPk P) (hd : 1 ≤ d) (hv : v_X12_allKnow_20 d Q p1 x2 x3 x4 I L P) : gw_X12_allKnow (d + 1) Q 20 [some (.ref 160), some (.int p1), some (.int x2), some (.int x3), some (.int x4)] [] I L P := by
  unfold v_X12_allKnow_20 at hv
  refine z_iload dX12_allKnow_20 rfl ?_
  refine z_aload_n dX12_allKnow_22 rfl ?_
  obtain ⟨h14, hv⟩ := hv
  refine z_callV (As := []) (st := [.int x4]) dX12_allKnow_23 zl_X12_339 zv_X12_manyOf (by decide) rfl zn_160 zo_160 rfl rfl (Nat.le_of_ble_eq_true rfl) ⟨Nat.le_refl _, Nat.le_refl _⟩ ⟨Nat.le_refl _, Nat.le_refl _⟩ (sp_X12_manyOf hP h14 (K := fun r I' L' P' => nI (vNp I) = r ∧ I = I' ∧ L = L' ∧ P = P') ⟨rfl, rfl, rfl, rfl⟩) (fun v1 I2 L2 P2 nx1 q16 => ?_)
  obtain ⟨rfl, r15, rfl, rfl, rfl, rfl, rfl⟩ := q16
  refine z_icmp_ge (tgt := 48) dX12_allKnow_26 (by decide) (fun q17 => ?_) (fun q17 => ?_)
  · have hv := hv.1 q17
    refine z_aload_n dX12_allKnow_48 rfl ?_
    refine z_getP dX12_allKnow_49 zf_X12_89 zn_160 zo_160 (fun _ _ _ _ _ => rfl) (hP 160 43 185 zp_160_43) ?_
    refine z_iload_n dX12_allKnow_52 rfl ?_
    refine z_iload_n dX12_allKnow_53 rfl ?_
    refine z_if_eq (tgt := 61) dX12_allKnow_54 (by decide) (fun q18 => ?_) (fun q18 => ?_)
    · have hv := hv.1 q18
      refine z_iconst (v := 0) dX12_allKnow_61 (by decide) ?_
      obtain ⟨h19, hv⟩ := hv
      refine z_iastore dX12_allKnow_62 zn_185 zh_185 h19 (z_nmI (fun I21 e20 => ?_))
      have hv := hv I21 e20
      refine z_iinc (v2 := x2 + 1) (lv2 := [some (.ref 160), some (.int p1), some (.int (x2 + 1)), some (.int x3), some (.int x4)]) dX12_allKnow_63 rfl (by rfl) (by decide) rfl rfl ?_
      refine z_goto (tgt := 2) dX12_allKnow_66 (by decide) ?_
      exact z_sub (by exact ⟨rfl, ⟨rfl, ⟨rfl, trivial⟩⟩⟩) hv
    · have hv := hv.2 q18
      refine z_iconst (v := 1) dX12_allKnow_57 (by decide) ?_
      refine z_goto (tgt := 62) dX12_allKnow_58 (by decide) ?_
      obtain ⟨h22, hv⟩ := hv
      refine z_iastore dX12_allKnow_62 zn_185 zh_185 h22 (z_nmI (fun I24 e23 => ?_))
      have hv := hv I24 e23
      refine z_iinc (v2 := x2 + 1) (lv2 := [some (.ref 160), some (.int p1), some (.int (x2 + 1)), some (.int x3), some (.int x4)]) dX12_allKnow_63 rfl (by rfl) (by decide) rfl rfl ?_
      refine z_goto (tgt := 2) dX12_allKnow_66 (by decide) ?_
      exact z_sub (by exact ⟨rfl, ⟨rfl, ⟨rfl, trivial⟩⟩⟩) hv
  · have hv := hv.2 q17
    refine z_iload_n dX12_allKnow_29 rfl ?_
    refine z_if_eq (tgt := 48) dX12_allKnow_30 (by decide) (fun q25 => ?_) (fun q25 => ?_)
    · have hv := hv.1 q25
      refine z_aload_n dX12_allKnow_48 rfl ?_
      refine z_getP dX12_allKnow_49 zf_X12_89 zn_160 zo_160 (fun _ _ _ _ _ => rfl) (hP 160 43 185 zp_160_43) ?_
      refine z_iload_n dX12_allKnow_52 rfl ?_
      refine z_iload_n dX12_allKnow_53 rfl ?_
      refine z_if_eq (tgt := 61) dX12_allKnow_54 (by decide) (fun q26 => ?_) (fun q26 => ?_)
      · skip
        refine z_iconst (v := 0) dX12_allKnow_61 (by decide) ?_
        obtain ⟨h27, hv⟩ := hv
        refine z_iastore dX12_allKnow_62 zn_185 zh_185 h27 (z_nmI (fun I29 e28 => ?_))
        have hv := hv I29 e28
        refine z_iinc (v2 := x2 + 1) (lv2 := [some (.ref 160), some (.int p1), some (.int (x2 + 1)), some (.int x3), some (.int x4)]) dX12_allKnow_63 rfl (by rfl) (by decide) rfl rfl ?_
        refine z_goto (tgt := 2) dX12_allKnow_66 (by decide) ?_
        exact z_sub (by exact ⟨rfl, ⟨rfl, ⟨rfl, trivial⟩⟩⟩) hv
      · exact absurd q25 q26
    · have hv := hv.2 q25
      refine z_aload_n dX12_allKnow_33 rfl ?_
      refine z_iload dX12_allKnow_34 rfl ?_
      refine z_iload_n dX12_allKnow_36 rfl ?_
      refine z_iload_n dX12_allKnow_37 rfl ?_
      refine z_callV (As := [.int x4, .int x2, .int p1]) (st := []) dX12_allKnow_38 zl_X12_374 zv_X12_doesKnow (by decide) rfl zn_160 zo_160 rfl rfl (Nat.le_of_ble_eq_true rfl) ⟨Nat.le_refl _, Nat.le_refl _⟩ ⟨Nat.le_refl _, Nat.le_refl _⟩ hv (fun v1 I30 L31 P32 nx1 q33 => ?_)
      obtain ⟨rfl, r34, rfl, hv⟩ := q33
      refine z_istore_n (lv2 := [some (.ref 160), some (.int p1), some (.int x2), some (.int r34), some (.int x4)]) dX12_allKnow_41 (by decide) rfl rfl ?_
      refine z_iinc (v2 := x4 + 1) (lv2 := [some (.ref 160), some (.int p1), some (.int x2), some (.int r34), some (.int (x4 + 1))]) dX12_allKnow_42 rfl (by rfl) (by decide) rfl rfl ?_
      refine z_goto (tgt := 20) dX12_allKnow_45 (by decide) ?_
      exact hv
abbrev v_X12_allKnow_2 (d : Nat) (Q : zQt) (p1 : Int32) (x2 : Int32) (I : zI) (L : zL) (P : zP) : Prop :=
  MB I ∧
  (((nI (vN I)) ≤ x2 →
    gw_X12_allKnow (d + 1) Q 71 [some (.ref 160), some (.int p1), some (.int 0), none, none] [] I L P
  ) ∧ (¬ (nI (vN I)) ≤ x2 →
    vp_in x2 256 ∧
    gw_X12_allKnow (d + 1) Q 20 [some (.ref 160), some (.int p1), some (.int x2), some (.int (I 180 x2.toNatClampNeg)), some (.int 0)] [] I L P
  ))
set_option maxRecDepth 20000 in
theorem g_X12_allKnow_2 {d : Nat} {Q : zQt} {p1 : Int32} {x2 : Int32} {I : zI} {L : zL} {P : zP} (hP : zPk P) (hd : 1 ≤ d) (hv : v_X12_allKnow_2 d Q p1 x2 I L P) : gw_X12_allKnow (d + 1) Q 2 [some (.ref 160), some (.int p1), some (.int x2), none, none] [] I L P := by
  unfold v_X12_allKnow_2 at hv
  refine z_iload_n dX12_allKnow_2 rfl ?_
  refine z_aload_n dX12_allKnow_3 rfl ?_
  obtain ⟨h1, hv⟩ := hv
  refine z_callV (As := []) (st := [.int x2]) dX12_allKnow_4 zl_X12_346 zv_X12_worldMany (by decide) rfl zn_160 zo_160 rfl rfl (Nat.le_of_ble_eq_true rfl) ⟨Nat.le_refl _, Nat.le_refl _⟩ ⟨Nat.le_refl _, Nat.le_refl _⟩ (sp_X12_worldMany hP h1 (by omega) (K := fun r I' L' P' => nI (vN I) = r ∧ I = I' ∧ L = L' ∧ P = P') ⟨rfl, rfl, rfl, rfl⟩) (fun v1 I2 L2 P2 nx1 q3 => ?_)
  obtain ⟨rfl, r2, rfl, rfl, rfl, rfl, rfl⟩ := q3
  refine z_icmp_ge (tgt := 69) dX12_allKnow_7 (by decide) (fun q4 => ?_) (fun q4 => ?_)
  · have hv := hv.1 q4
    refine z_iconst (v := 0) dX12_allKnow_69 (by decide) ?_
    refine z_istore_n (lv2 := [some (.ref 160), some (.int p1), some (.int 0), none, none]) dX12_allKnow_70 (by decide) rfl rfl ?_
    exact hv
  · have hv := hv.2 q4
    refine z_aload_n dX12_allKnow_10 rfl ?_
    refine z_getP dX12_allKnow_11 zf_X12_74 zn_160 zo_160 (fun _ _ _ _ _ => rfl) (hP 160 35 180 zp_160_35) ?_
    refine z_iload_n dX12_allKnow_14 rfl ?_
    obtain ⟨h5, hv⟩ := hv
    refine z_zaload dX12_allKnow_15 zn_180 zh_180 h5 ?_
    refine z_istore_n (lv2 := [some (.ref 160), some (.int p1), some (.int x2), some (.int (I 180 x2.toNatClampNeg)), none]) dX12_allKnow_16 (by decide) rfl rfl ?_
    refine z_iconst (v := 0) dX12_allKnow_17 (by decide) ?_
    refine z_istore (lv2 := [some (.ref 160), some (.int p1), some (.int x2), some (.int (I 180 x2.toNatClampNeg)), some (.int 0)]) dX12_allKnow_18 (by decide) rfl rfl ?_
    exact hv
abbrev v_X12_allKnow (d : Nat) (Q : zQt) (p1 : Int32) (I : zI) (L : zL) (P : zP) : Prop :=
  gw_X12_allKnow (d + 1) Q 2 [some (.ref 160), some (.int p1), some (.int 0), none, none] [] I L P
set_option maxRecDepth 20000 in
theorem g_X12_allKnow {d : Nat} {Q : zQt} {p1 : Int32} {I : zI} {L : zL} {P : zP} (hP : zPk P) (hd : 1 ≤ d) (hv : v_X12_allKnow d Q p1 I L P) : zM zm_X12_allKnow (d + 1) 0 0 [.ref 160, .int p1] I L P 205 Q := by
  unfold v_X12_allKnow at hv
  refine zM_of (lv0 := [some (.ref 160), some (.int p1), none, none, none]) (by decide +kernel) (Nat.le_of_ble_eq_true rfl) rfl ?_
  refine z_iconst (v := 0) dX12_allKnow_0 (by decide) ?_
  refine z_istore_n (lv2 := [some (.ref 160), some (.int p1), some (.int 0), none, none]) dX12_allKnow_1 (by decide) rfl rfl ?_
  exact hv
def sAl (np N : Nat) (po : Nat → Prop) (lk : Nat → Nat → Nat → Prop) (r : Nat → Int32) (w : Nat) : Prop := ∀ p, p < np → sKn N po (lk p) r w
theorem lp_X12_allKnow_71 {d : Nat} {Q : zQt} {I0 : zI} {L : zL} {P : zP} {row : Nat} (hP : zPk P) (hE : ME I0) (hr : row + 256 ≤ 12288) (hd : 3 ≤ d)
    (k : ∀ I, zFr [183] [] I0 I → (∀ j, ¬ (row ≤ j ∧ j < row + vN I0) → I 183 j = I0 183 j) → (∀ w, w < vN I0 → I 183 (row + w) = I0 185 w) → Q none I L P 205) :
    ∀ n i I, i + n = vN I0 → zFr [183] [] I0 I → (∀ j, ¬ (row ≤ j ∧ j < row + i) → I 183 j = I0 183 j) → (∀ w, w < i → I 183 (row + w) = I0 185 w) →
      gw_X12_allKnow (d + 1) Q 71 [some (.ref 160), some (.int (nI row)), some (.int (nI i)), none, none] [] I L P := by
  have hN := vN_le hE.1
  intro n
  induction n with
  | zero =>
    intro i I hi hf h1 h2
    have hi2 : i = vN I0 := by omega
    subst hi2
    have eN := vN_fr hf (by decide) (by decide)
    refine g_X12_allKnow_71 hP (by omega) ⟨(ME_fr hf (by decide) (by decide) (by decide) (by decide) (by decide) hE).1, fun _ => k I hf h1 h2, fun q => absurd (by rw [eN]; exact nI_le (Nat.le_refl _) (by omega)) q⟩
  | succ n ih =>
    intro i I hi hf h1 h2
    have eN := vN_fr hf (by decide) (by decide)
    have er : nI row + nI i = nI (row + i) := nI_add _ _
    refine g_X12_allKnow_71 hP (by omega) ⟨(ME_fr hf (by decide) (by decide) (by decide) (by decide) (by decide) hE).1, fun q => absurd q (by rw [eN]; exact nI_ge (by omega) (by omega)), fun _ => ⟨nx_in (by omega) (by decide), by rw [er]; exact nx_in (by omega) (by decide), fun I1 e1 => ?_⟩⟩
    rw [er, nI_cl (by omega), nI_cl (by omega), hf.1 185 (by decide) (by decide)] at e1
    subst e1
    rw [nI_1]
    refine ih (i + 1) _ (by omega) (zFr_c hf (by decide) (by decide)) (fun j hj => ?_) (fun w hw => ?_)
    · rw [zuI_o (by omega)]
      exact h1 j (by omega)
    · rcases Nat.lt_succ_iff_lt_or_eq.mp hw with h | h
      · rw [zuI_o (by omega)]; exact h2 w h
      · subst h; exact zuI_v _ _ _ _
theorem lp_X12_allKnow_20 {d : Nat} {Q : zQt} {I : zI} {L : zL} {P : zP} {row w : Nat} (hP : zPk P) (hE : ME I) (hw : w < vN I) (hr : row + 256 ≤ 12288) (hd : 4 ≤ d)
    (k : ∀ v : Int32, v = bP (vPoss I w ∧ sAl (vNp I) (vN I) (vPoss I) (vLike I) (vRow I row) w) → ∀ I1, I1 = zuI I 185 w v → gw_X12_allKnow (d + 1) Q 2 [some (.ref 160), some (.int (nI row)), some (.int (nI (w + 1))), none, none] [] I1 L P) :
    ∀ n i x3, i + n = vNp I → x3 = bP (vPoss I w ∧ ∀ p, p < i → sKn (vN I) (vPoss I) (vLike I p) (vRow I row) w) →
      gw_X12_allKnow (d + 1) Q 20 [some (.ref 160), some (.int (nI row)), some (.int (nI w)), some (.int x3), some (.int (nI i))] [] I L P := by
  have hN := vN_le hE.1
  have hnp := hE.1.2.1
  have fin : ∀ (i : Nat) (x3 : Int32), x3 = bP (vPoss I w ∧ ∀ p, p < i → sKn (vN I) (vPoss I) (vLike I p) (vRow I row) w) → i = vNp I ∨ x3 = 0 → (i ≤ vNp I) → ∀ (v : Int32), (v = 0 ∧ x3 = 0 ∨ v = 1 ∧ ¬ x3 = 0) → ∀ I1, I1 = zuI I 185 (nI w).toNatClampNeg v → gw_X12_allKnow (d + 1) Q 2 [some (.ref 160), some (.int (nI row)), some (.int (nI w + 1)), none, none] [] I1 L P := by
    intro i x3 e3 hi hi2 v hv I1 e1
    rw [nI_cl (by omega)] at e1
    rw [nI_1]
    refine k v ?_ I1 e1
    rcases hv with ⟨rfl, hz⟩ | ⟨rfl, hz⟩
    · rw [e3, bP_0] at hz
      exact (bP_f (fun h => hz ⟨h.1, fun p hp => h.2 p (by omega)⟩)).symm
    · rcases hi with hi | hi
      · rw [e3, bP_n, hi] at hz
        exact (bP_t hz).symm
      · exact absurd hi hz
  intro n
  induction n with
  | zero =>
    intro i x3 hi e3
    refine g_X12_allKnow_20 hP (by omega) ⟨hE.1, fun _ => ⟨fun q => ⟨nx_in (by omega) (by decide), fin i x3 e3 (Or.inl (by omega)) (by omega) 0 (Or.inl ⟨rfl, q⟩)⟩, fun q => ⟨nx_in (by omega) (by decide), fin i x3 e3 (Or.inl (by omega)) (by omega) 1 (Or.inr ⟨rfl, q⟩)⟩⟩, fun q => absurd (nI_le (by omega) (by omega)) q⟩
  | succ n ih =>
    intro i x3 hi e3
    refine g_X12_allKnow_20 hP (by omega) ⟨hE.1, fun q => absurd q (nI_ge (by omega) (by omega)), fun _ => ⟨fun q => ⟨nx_in (by omega) (by decide), fin i x3 e3 (Or.inr q) (by omega) 0 (Or.inl ⟨rfl, q⟩)⟩, fun q => ?_⟩⟩
    refine sp_X12_doesKnow hP hE (by omega) hw hr (by omega) ?_
    rw [nI_1]
    refine ih (i + 1) _ (by omega) ?_
    rw [e3, bP_n] at q
    refine bP_c ⟨fun h => ⟨q.1, fun p hp => ?_⟩, fun h => h.2 i (by omega)⟩
    rcases Nat.lt_succ_iff_lt_or_eq.mp hp with h' | h'
    · exact q.2 p h'
    · subst h'; exact h
theorem lp_X12_allKnow_2 {d : Nat} {Q : zQt} {I0 : zI} {L : zL} {P : zP} {row : Nat} (hP : zPk P) (hE : ME I0) (hB : ∀ w, w < vN I0 → I0 180 w = 0 ∨ I0 180 w = 1) (hr : row + 256 ≤ 12288) (hd : 4 ≤ d)
    (k : ∀ I, zFr [183, 185] [] I0 I → (∀ j, ¬ (row ≤ j ∧ j < row + vN I0) → I 183 j = I0 183 j) → (∀ w, w < vN I0 → I 183 (row + w) = bP (vPoss I0 w ∧ sAl (vNp I0) (vN I0) (vPoss I0) (vLike I0) (vRow I0 row) w)) → Q none I L P 205) :
    ∀ n i I, i + n = vN I0 → zFr [185] [] I0 I → (∀ w, w < i → I 185 w = bP (vPoss I0 w ∧ sAl (vNp I0) (vN I0) (vPoss I0) (vLike I0) (vRow I0 row) w)) →
      gw_X12_allKnow (d + 1) Q 2 [some (.ref 160), some (.int (nI row)), some (.int (nI i)), none, none] [] I L P := by
  have hN := vN_le hE.1
  intro n
  induction n with
  | zero =>
    intro i I hi hf h2
    have hi2 : i = vN I0 := by omega
    subst hi2
    have eN := vN_fr hf (by decide) (by decide)
    have hE2 := ME_fr hf (by decide) (by decide) (by decide) (by decide) (by decide) hE
    refine g_X12_allKnow_2 hP (by omega) ⟨hE2.1, fun _ => ?_, fun q => absurd (by rw [eN]; exact nI_le (Nat.le_refl _) (by omega)) q⟩
    refine lp_X12_allKnow_71 hP hE2 hr (by omega) (fun I1 g1 g2 g3 => k I1 ?_ ?_ ?_) (vN I) 0 I (by omega) (zFr_rf _ _ _) (fun _ _ => rfl) (fun w hw => absurd hw (Nat.not_lt_zero w))
    · exact zFr_tr (zFr_wk hf (by decide) (by decide)) (zFr_wk g1 (by decide) (by decide))
    · intro j hj
      rw [g2 j (by rw [eN]; exact hj), hf.1 183 (by decide) (by decide)]
    · intro w hw
      rw [g3 w (by rw [eN]; exact hw), h2 w hw]
  | succ n ih =>
    intro i I hi hf h2
    have eN := vN_fr hf (by decide) (by decide)
    have eP := vNp_fr hf (by decide) (by decide)
    have hE2 := ME_fr hf (by decide) (by decide) (by decide) (by decide) (by decide) hE
    have e180 : I 180 = I0 180 := hf.1 180 (by decide) (by decide)
    have e183 : I 183 = I0 183 := hf.1 183 (by decide) (by decide)
    refine g_X12_allKnow_2 hP (by omega) ⟨hE2.1, fun q => absurd q (by rw [eN]; exact nI_ge (by omega) (by omega)), fun _ => ⟨nx_in (by omega) (by decide), ?_⟩⟩
    refine lp_X12_allKnow_20 hP hE2 (by omega) hr hd (fun v hv I1 e1 => ?_) (vNp I) 0 _ (by omega) ?_
    · subst e1
      refine ih (i + 1) _ (by omega) (zFr_c hf (by decide) (by decide)) (fun w hw => ?_)
      rcases Nat.lt_succ_iff_lt_or_eq.mp hw with h | h
      · rw [zuI_o (by omega)]; exact h2 w h
      · subst h
        rw [zuI_v, hv]
        refine bP_c ?_
        unfold sAl
        rw [eN, eP]
        have ek : ∀ p, (sKn (vN I0) (vPoss I) (vLike I p) (vRow I row) w ↔ sKn (vN I0) (vPoss I0) (vLike I0 p) (vRow I0 row) w) := fun p =>
          sKn_c (fun v _ => by unfold vPoss; rw [e180]) (fun v _ _ => by rw [vLike_fr hf (by decide) (by decide) (by decide) (by decide) (by decide) (by decide)]) (fun v _ _ => by unfold vRow; rw [e183])
        simp only [ek]
        unfold vPoss
        rw [e180]
    · rw [nI_cl (by omega), e180]
      rcases hB i (by omega) with h | h
      · rw [h]
        refine (bP_f (fun q => q.1 ?_)).symm
        rw [e180]; exact h
      · rw [h]
        refine (bP_t ⟨?_, fun p hp => absurd hp (Nat.not_lt_zero p)⟩).symm
        unfold vPoss
        rw [e180, h]; decide
theorem sp_X12_allKnow {d : Nat} {I : zI} {L : zL} {P : zP} {row : Nat} (hP : zPk P) (hE : ME I) (hB : ∀ w, w < vN I → I 180 w = 0 ∨ I 180 w = 1) (hr : row + 256 ≤ 12288) (hd : 5 ≤ d) {K : zI → zL → zP → Prop}
    (k : ∀ I', zFr [183, 185] [] I I' → (∀ j, ¬ (row ≤ j ∧ j < row + vN I) → I' 183 j = I 183 j) → (∀ w, w < vN I → I' 183 (row + w) = bP (vPoss I w ∧ sAl (vNp I) (vN I) (vPoss I) (vLike I) (vRow I row) w)) → K I' L P) : zMv zm_X12_allKnow d [.ref 160, .int (nI row)] I L P K := by
  obtain ⟨d, rfl⟩ : ∃ e, d = e + 1 := ⟨d - 1, by omega⟩
  exact g_X12_allKnow hP (by omega) (lp_X12_allKnow_2 hP hE hB hr (by omega) (fun I' a b c => qv (k I' a b c)) (vN I) 0 I (by omega) (zFr_rf _ _ _) (fun w hw => absurd hw (Nat.not_lt_zero w)))
