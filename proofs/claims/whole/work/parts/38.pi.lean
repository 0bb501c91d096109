/-! ===== the model: behind a unit ===== -/
theorem sOk_ne {q : Ent} {S : List Ent} {w : Nat} (h : sOk (q :: S) w) : (q.1 ≤ 6 → S ≠ [] ∧ 1 ≤ q.1) ∧ q.1 < 9 ∧ (q.1 = 3 → 1 ≤ w) ∧ (q.1 = 7 → 1 ≤ w ∧ S ≠ [] ∧ sOk S (w - 1)) ∧ (q.1 = 3 → sOk S (w - 1)) ∧ (q.1 ≤ 6 → q.1 ≠ 3 → sOk S w) ∧ (q.1 = 8 → S = [] ∧ w = 0) := by
  rcases h with ⟨h1, h2, h3⟩ | ⟨h1, h2, h3, h4⟩ | ⟨h1, h2, h3, h4⟩ | ⟨h1, h2, h3, h4⟩
  · exact ⟨fun z => by omega, by omega, fun z => by omega, fun z => by omega, fun z => by omega, fun z => by omega, fun _ => ⟨h2, h3⟩⟩
  · exact ⟨fun z => by omega, by omega, fun z => by omega, fun _ => ⟨h3, h2, h4⟩, fun z => by omega, fun z => by omega, fun z => by omega⟩
  · exact ⟨fun _ => ⟨h2, by omega⟩, by omega, fun _ => h3, fun z => by omega, fun _ => h4, fun z y => by omega, fun z => by omega⟩
  · exact ⟨fun _ => ⟨h2, by omega⟩, by omega, fun z => by omega, fun z => by omega, fun z => by omega, fun z y => h4, fun z => by omega⟩
theorem rkH_sg {k : Nat} (h : rkH k ≠ 0) (h1 : rkH k ≠ 1) (h2 : rkH k ≠ 2) : nI k ∈ sgL ∧ k < 64 := by
  unfold rkH at h h1 h2
  by_cases a : k = 266
  · rw [if_pos a] at h2; exact absurd rfl h2
  · rw [if_neg a] at h h1 h2
    by_cases a1 : k = 265
    · rw [if_pos a1] at h1; exact absurd rfl h1
    · rw [if_neg a1] at h h1 h2
      have : k = 60 ∨ k = 62 ∨ k = 61 ∨ k = 43 ∨ k = 45 ∨ k = 42 ∨ k = 47 := by
        repeat' split at h
        all_goals omega
      rcases this with rfl | rfl | rfl | rfl | rfl | rfl | rfl <;> decide
theorem rkH_lt (k : Nat) : rkH k < 7 := by
  unfold rkH
  repeat' split
  all_goals decide
abbrev gw_X12_isCompared (d : Nat) (Q : zQt) (pc : Nat) (lv : zV) (st : List Value) (I : zI) (L : zL) (P : zP) : Prop := zW zm_X12_isCompared (zRm d 0 0) 0 0 Q pc lv st I L P 205 0 0
abbrev v_X12_isCompared_7 (d : Nat) (Q : zQt) (x1 : Int32) (I : zI) (L : zL) (P : zP) : Prop :=
  vp_in x1 90 ∧
  (((I 177 x1.toNatClampNeg) = 5 →
    gw_X12_isCompared d Q 7 [some (.ref 160), some (.int (x1 + (-1)))] [] I L P
  ) ∧ (¬ (I 177 x1.toNatClampNeg) = 5 →
    ((¬ (I 177 x1.toNatClampNeg) = 6 →
      ((¬ (I 177 x1.toNatClampNeg) = 4 →
        Q (some (.int 0)) I L P 205
      ) ∧ ((I 177 x1.toNatClampNeg) = 4 →
        Q (some (.int 1)) I L P 205
      ))
    ) ∧ ((I 177 x1.toNatClampNeg) = 6 →
      gw_X12_isCompared d Q 7 [some (.ref 160), some (.int (x1 + (-1)))] [] I L P
    ))
  ))
set_option maxRecDepth 20000 in
theorem g_X12_isCompared_7 {d : Nat} {Q : zQt} {x1 : Int32} {I : zI} {L : zL} {P : zP} (hP : zPk P) (hv : v_X12_isCompared_7 d Q x1 I L P) : gw_X12_isCompared d Q 7 [some (.ref 160), some (.int x1)] [] I L P := by
  unfold v_X12_isCompared_7 at hv
  refine z_aload_n dX12_isCompared_7 rfl ?_
  refine z_getP dX12_isCompared_8 zf_X12_65 zn_160 zo_160 (fun _ _ _ _ _ => rfl) (hP 160 25 177 zp_160_25) ?_
  refine z_iload_n dX12_isCompared_11 rfl ?_
  obtain ⟨h1, hv⟩ := hv
  refine z_iaload dX12_isCompared_12 zn_177 zh_177 h1 ?_
  refine z_iconst (v := 5) dX12_isCompared_13 (by decide) ?_
  refine z_icmp_eq (tgt := 28) dX12_isCompared_14 (by decide) (fun q2 => ?_) (fun q2 => ?_)
  · have hv := hv.1 q2
    refine z_iinc (v2 := x1 + (-1)) (lv2 := [some (.ref 160), some (.int (x1 + (-1)))]) dX12_isCompared_28 rfl (by rfl) (by decide) rfl rfl ?_
    refine z_goto (tgt := 7) dX12_isCompared_31 (by decide) ?_
    exact hv
  · have hv := hv.2 q2
    refine z_aload_n dX12_isCompared_17 rfl ?_
    refine z_getP dX12_isCompared_18 zf_X12_65 zn_160 zo_160 (fun _ _ _ _ _ => rfl) (hP 160 25 177 zp_160_25) ?_
    refine z_iload_n dX12_isCompared_21 rfl ?_
    refine z_iaload dX12_isCompared_22 zn_177 zh_177 h1 ?_
    refine z_bipush (v := 6) dX12_isCompared_23 (by decide) ?_
    refine z_icmp_ne (tgt := 34) dX12_isCompared_25 (by decide) (fun q3 => ?_) (fun q3 => ?_)
    · have hv := hv.1 q3
      refine z_aload_n dX12_isCompared_34 rfl ?_
      refine z_getP dX12_isCompared_35 zf_X12_65 zn_160 zo_160 (fun _ _ _ _ _ => rfl) (hP 160 25 177 zp_160_25) ?_
      refine z_iload_n dX12_isCompared_38 rfl ?_
      refine z_iaload dX12_isCompared_39 zn_177 zh_177 h1 ?_
      refine z_iconst (v := 4) dX12_isCompared_40 (by decide) ?_
      refine z_icmp_ne (tgt := 48) dX12_isCompared_41 (by decide) (fun q4 => ?_) (fun q4 => ?_)
      · have hv := hv.1 q4
        refine z_iconst (v := 0) dX12_isCompared_48 (by decide) ?_
        exact z_ireturn dX12_isCompared_49 rfl (by decide) (Nat.le_refl _) (Nat.le_refl _) hv
      · have hv := hv.2 q4
        refine z_iconst (v := 1) dX12_isCompared_44 (by decide) ?_
        refine z_goto (tgt := 49) dX12_isCompared_45 (by decide) ?_
        exact z_ireturn dX12_isCompared_49 rfl (by decide) (Nat.le_refl _) (Nat.le_refl _) hv
    · have hv := hv.2 q3
      refine z_iinc (v2 := x1 + (-1)) (lv2 := [some (.ref 160), some (.int (x1 + (-1)))]) dX12_isCompared_28 rfl (by rfl) (by decide) rfl rfl ?_
      refine z_goto (tgt := 7) dX12_isCompared_31 (by decide) ?_
      exact hv
abbrev v_X12_isCompared (d : Nat) (Q : zQt)  (I : zI) (L : zL) (P : zP) : Prop :=
  gw_X12_isCompared d Q 7 [some (.ref 160), some (.int ((I 160 34) - 1))] [] I L P
set_option maxRecDepth 20000 in
theorem g_X12_isCompared {d : Nat} {Q : zQt}  {I : zI} {L : zL} {P : zP} (hP : zPk P) (hv : v_X12_isCompared d Q  I L P) : zM zm_X12_isCompared d 0 0 [.ref 160] I L P 205 Q := by
  unfold v_X12_isCompared at hv
  refine zM_of (lv0 := [some (.ref 160), none]) (by decide +kernel) (Nat.le_of_ble_eq_true rfl) rfl ?_
  refine z_aload_n dX12_isCompared_0 rfl ?_
  refine z_getI dX12_isCompared_1 zf_X12_311 zn_160 zo_160 (fun _ _ _ _ _ => rfl) ?_
  refine z_iconst (v := 1) dX12_isCompared_4 (by decide) ?_
  refine z_isub dX12_isCompared_5 ?_
  refine z_istore_n (lv2 := [some (.ref 160), some (.int ((I 160 34) - 1))]) dX12_isCompared_6 (by decide) rfl rfl ?_
  exact hv
theorem lp_X12_isCompared {d : Nat} {Q : zQt} {I : zI} {L : zL} {P : zP} (hP : zPk P) {res : Int32} (kk : Q (some (.int res)) I L P 205) : ∀ (S : List Ent) (q : Ent) (w : Nat), (q :: S).length < 90 → sOk (q :: S) w → stk I (q :: S) → bP (bCmp (q :: S)) = res →
    gw_X12_isCompared d Q 7 [some (.ref 160), some (.int (nI S.length))] [] I L P := by
  intro S
  induction S with
  | nil =>
    intro q w hl ho hs hr
    have e177 : I 177 0 = nI q.1 := hs.1.1
    have h8 : ¬ q.1 ≤ 6 := fun z => (sOk_ne ho).1 z |>.1 rfl
    have h9 := (sOk_ne ho).2.1
    have cl : (nI ([] : List Ent).length).toNatClampNeg = 0 := nI_cl (by decide)
    have z5 : nI q.1 = 5 ↔ q.1 = 5 := nI_eq (b := 5) (by omega) (by decide)
    have z6 : nI q.1 = 6 ↔ q.1 = 6 := nI_eq (b := 6) (by omega) (by decide)
    have z4 : nI q.1 = 4 ↔ q.1 = 4 := nI_eq (b := 4) (by omega) (by decide)
    refine g_X12_isCompared_7 hP ⟨nx_in (by simp) (by decide), ?_⟩
    rw [cl, e177, z5, z6, z4]
    refine ⟨fun z => absurd z (by omega), fun _ => ⟨fun _ => ⟨fun _ => ?_, fun z => absurd z (by omega)⟩, fun z => absurd z (by omega)⟩⟩
    rw [← hr, bP_f (fun z => by rcases z with z | ⟨z, -⟩ <;> omega)] at kk
    exact kk
  | cons q' S ih =>
    intro q w hl ho hs hr
    have e177 : I 177 (q' :: S).length = nI q.1 := hs.1.1
    have h9 := (sOk_ne ho).2.1
    rw [List.length_cons] at hl
    have cl : (nI (q' :: S).length).toNatClampNeg = (q' :: S).length := nI_cl (by omega)
    have z5 : nI q.1 = 5 ↔ q.1 = 5 := nI_eq (b := 5) (by omega) (by decide)
    have z6 : nI q.1 = 6 ↔ q.1 = 6 := nI_eq (b := 6) (by omega) (by decide)
    have z4 : nI q.1 = 4 ↔ q.1 = 4 := nI_eq (b := 4) (by omega) (by decide)
    have down : (q.1 = 5 ∨ q.1 = 6) → gw_X12_isCompared d Q 7 [some (.ref 160), some (.int (nI (q' :: S).length + (-1)))] [] I L P := by
      intro h56
      have e : (nI (q' :: S).length + (-1) : Int32) = nI S.length := by
        rw [show (nI (q' :: S).length + (-1) : Int32) = nI (q' :: S).length - 1 from (Int32.sub_eq_add_neg _ _).symm, List.length_cons, show (1 : Int32) = nI 1 from rfl, pk_sub (by omega)]
        exact nIe (by omega)
      rw [e]
      refine ih q' w (by omega) ((sOk_ne ho).2.2.2.2.2.1 (by omega) (by omega)) hs.2 ?_
      rw [← hr]
      exact bP_c ⟨fun z => Or.inr ⟨h56, z⟩, fun z => z.elim (fun y => by omega) (fun y => y.2)⟩
    refine g_X12_isCompared_7 hP ⟨nx_in (by omega) (by decide), ?_⟩
    rw [cl, e177, z5, z6, z4]
    refine ⟨fun z => down (Or.inl z), fun n5 => ⟨fun n6 => ⟨fun n4 => ?_, fun n4 => ?_⟩, fun z => down (Or.inr z)⟩⟩
    · rw [← hr, bP_f (fun z => by rcases z with z | ⟨z, -⟩ <;> omega)] at kk
      exact kk
    · rw [← hr, bP_t (show bCmp (q :: q' :: S) from Or.inl n4)] at kk
      exact kk
theorem sp_X12_isCompared {d : Nat} {I : zI} {L : zL} {P : zP} {S : List Ent} {q : Ent} {w : Nat} (hP : zPk P) (hl : (q :: S).length < 90) (ho : sOk (q :: S) w) (hs : stk I (q :: S)) (h34 : I 160 34 = nI (q :: S).length) {K : Int32 → zI → zL → zP → Prop} (kk : K (bP (bCmp (q :: S))) I L P) : zMi zm_X12_isCompared d [.ref 160] I L P K := by
  refine g_X12_isCompared hP ?_
  unfold v_X12_isCompared
  rw [h34, List.length_cons, show (1 : Int32) = nI 1 from rfl, pk_sub (by omega), show S.length + 1 - 1 = S.length by omega]
  exact lp_X12_isCompared hP (qi kk) S q w hl ho hs rfl
abbrev gw_X12_behindUnit (d : Nat) (Q : zQt) (pc : Nat) (lv : zV) (st : List Value) (I : zI) (L : zL) (P : zP) : Prop := zW zm_X12_behindUnit (zRm d 0 0) 0 0 Q pc lv st I L P 205 0 0
abbrev v_X12_behindUnit_138 (d : Nat) (Q : zQt) (t0 : Int32) (t1 : Int32) (I : zI) (L : zL) (P : zP) : Prop :=
  zMv zm_X12_pushE d [.ref 160, .int t1, .int t0, .int 0] I L P (fun I61 L62 P63 =>
    zMv zm_X12_goOn d [.ref 160] I61 L62 P63 (fun I66 L67 P68 =>
      Q (some (.int 1)) I66 L67 P68 205
    )
  )
set_option maxRecDepth 20000 in
theorem g_X12_behindUnit_138 {d : Nat} {Q : zQt} {t0 : Int32} {t1 : Int32} {I : zI} {L : zL} {P : zP} (hP : zPk P) (hd : 1 ≤ d) (hv : v_X12_behindUnit_138 d Q t0 t1 I L P) : gw_X12_behindUnit (d + 1) Q 138 [some (.ref 160), none] [.int t0, .int t1, .ref 160] I L P := by
  unfold v_X12_behindUnit_138 at hv
  refine z_iconst (v := 0) dX12_behindUnit_138 (by decide) ?_
  refine z_callV (As := [.int t1, .int t0, .int 0]) (st := []) dX12_behindUnit_139 zl_X12_317 zv_X12_pushE (by decide) rfl zn_160 zo_160 rfl rfl (Nat.le_of_ble_eq_true rfl) ⟨Nat.le_refl _, Nat.le_refl _⟩ ⟨Nat.le_refl _, Nat.le_refl _⟩ hv (fun v1 I61 L62 P63 nx1 q64 => ?_)
  obtain ⟨rfl, rfl, hv⟩ := q64
  refine z_aload_n dX12_behindUnit_142 rfl ?_
  refine z_callV (As := []) (st := []) dX12_behindUnit_143 zl_X12_237 zv_X12_goOn (by decide) rfl zn_160 zo_160 rfl rfl (Nat.le_of_ble_eq_true rfl) ⟨Nat.le_refl _, Nat.le_refl _⟩ ⟨Nat.le_refl _, Nat.le_refl _⟩ hv (fun v1 I66 L67 P68 nx1 q69 => ?_)
  obtain ⟨rfl, rfl, hv⟩ := q69
  refine z_iconst (v := 1) dX12_behindUnit_146 (by decide) ?_
  exact z_ireturn dX12_behindUnit_147 rfl (by decide) (Nat.le_refl _) (Nat.le_refl _) hv
abbrev v_X12_behindUnit_104 (d : Nat) (Q : zQt) (x1 : Int32) (I : zI) (L : zL) (P : zP) : Prop :=
  ((x1 ≤ 0 →
    ∀ I28 : zI, I28 = zuI I 160 34 ((I 160 34) - 1) →
    vp_in (I28 160 34) 90 ∧
    ((¬ (I28 177 (I28 160 34).toNatClampNeg) = 7 →
      Q (some (.int 0)) I28 L P 205
    ) ∧ ((I28 177 (I28 160 34).toNatClampNeg) = 7 →
      ∀ I32 : zI, I32 = zuI I28 160 33 ((I28 160 33) - 1) →
      (I32 160 8 = 5 → pSg I32 (I32 160 6)) ∧
      zMv zm_X12_must d [.ref 160, .int (bP (I32 160 8 = 5 ∧ sSg I32 (I32 160 6) = 41))] I32 L P (fun I37 L38 P39 =>
        zPk P39 ∧
        vp_in (I37 160 34) 90 ∧
        (((I37 178 (I37 160 34).toNatClampNeg) = 40 →
          Q (some (.int 0)) I37 L38 P39 205
        ) ∧ (¬ (I37 178 (I37 160 34).toNatClampNeg) = 40 →
          zMv zm_X12_emit d [.ref 160, .int (I37 178 (I37 160 34).toNatClampNeg), .int (I37 179 (I37 160 34).toNatClampNeg)] I37 L38 P39 (fun I45 L46 P47 =>
            Q (some (.int 0)) I45 L46 P47 205
          )
        ))
      )
    ))
  ) ∧ (¬ x1 ≤ 0 →
    ((¬ x1 = 2 →
      ((¬ x1 = 1 →
        pSg I (I 160 6) ∧
        gw_X12_behindUnit (d + 1) Q 138 [some (.ref 160), none] [.int (sSg I (I 160 6)), .int x1, .ref 160] I L P
      ) ∧ (x1 = 1 →
        gw_X12_behindUnit (d + 1) Q 138 [some (.ref 160), none] [.int 124, .int x1, .ref 160] I L P
      ))
    ) ∧ (x1 = 2 →
      gw_X12_behindUnit (d + 1) Q 138 [some (.ref 160), none] [.int 38, .int x1, .ref 160] I L P
    ))
  ))
set_option maxRecDepth 20000 in
theorem g_X12_behindUnit_104 {d : Nat} {Q : zQt} {x1 : Int32} {I : zI} {L : zL} {P : zP} (hP : zPk P) (hd : 1 ≤ d) (hv : v_X12_behindUnit_104 d Q x1 I L P) : gw_X12_behindUnit (d + 1) Q 104 [some (.ref 160), some (.int x1)] [] I L P := by
  unfold v_X12_behindUnit_104 at hv
  refine z_iload_n dX12_behindUnit_104 rfl ?_
  refine z_if_le (tgt := 148) dX12_behindUnit_105 (by decide) (fun q27 => ?_) (fun q27 => ?_)
  · have hv := hv.1 q27
    refine z_aload_n dX12_behindUnit_148 rfl ?_
    refine z_dup dX12_behindUnit_149 rfl ?_
    refine z_getI dX12_behindUnit_150 zf_X12_311 zn_160 zo_160 (fun _ _ _ _ _ => rfl) ?_
    refine z_iconst (v := 1) dX12_behindUnit_153 (by decide) ?_
    refine z_isub dX12_behindUnit_154 ?_
    refine z_putI dX12_behindUnit_155 zf_X12_311 zn_160 zo_160 (Or.inl rfl) (fun _ _ _ _ _ => rfl) rfl rfl (z_nmI (fun I28 e29 => ?_))
    have hv := hv I28 e29
    refine z_aload_n dX12_behindUnit_158 rfl ?_
    refine z_getP dX12_behindUnit_159 zf_X12_65 zn_160 zo_160 (fun _ _ _ _ _ => rfl) (hP 160 25 177 zp_160_25) ?_
    refine z_aload_n dX12_behindUnit_162 rfl ?_
    refine z_getI dX12_behindUnit_163 zf_X12_311 zn_160 zo_160 (fun _ _ _ _ _ => rfl) ?_
    obtain ⟨h30, hv⟩ := hv
    refine z_iaload dX12_behindUnit_166 zn_177 zh_177 h30 ?_
    refine z_bipush (v := 7) dX12_behindUnit_167 (by decide) ?_
    refine z_icmp_ne (tgt := 228) dX12_behindUnit_169 (by decide) (fun q31 => ?_) (fun q31 => ?_)
    · have hv := hv.1 q31
      refine z_iconst (v := 0) dX12_behindUnit_228 (by decide) ?_
      exact z_ireturn dX12_behindUnit_229 rfl (by decide) (Nat.le_refl _) (Nat.le_refl _) hv
    · have hv := hv.2 q31
      refine z_aload_n dX12_behindUnit_172 rfl ?_
      refine z_dup dX12_behindUnit_173 rfl ?_
      refine z_getI dX12_behindUnit_174 zf_X12_314 zn_160 zo_160 (fun _ _ _ _ _ => rfl) ?_
      refine z_iconst (v := 1) dX12_behindUnit_177 (by decide) ?_
      refine z_isub dX12_behindUnit_178 ?_
      refine z_putI dX12_behindUnit_179 zf_X12_314 zn_160 zo_160 (Or.inl rfl) (fun _ _ _ _ _ => rfl) rfl rfl (z_nmI (fun I32 e33 => ?_))
      have hv := hv I32 e33
      refine z_aload_n dX12_behindUnit_182 rfl ?_
      refine z_aload_n dX12_behindUnit_183 rfl ?_
      refine z_bipush (v := 41) dX12_behindUnit_184 (by decide) ?_
      obtain ⟨h34, hv⟩ := hv
      refine z_callV (As := [.int 41]) (st := [.ref 160]) dX12_behindUnit_186 zl_X12_291 zv_X12_stands (by decide) rfl zn_160 zo_160 rfl rfl (Nat.le_of_ble_eq_true rfl) ⟨Nat.le_refl _, Nat.le_refl _⟩ ⟨Nat.le_refl _, Nat.le_refl _⟩ (sp_X12_stands hP h34 (by omega) (K := fun r I' L' P' => bP (I32 160 8 = 5 ∧ sSg I32 (I32 160 6) = 41) = r ∧ I32 = I' ∧ L = L' ∧ P = P') ⟨rfl, rfl, rfl, rfl⟩) (fun v1 I2 L2 P2 nx1 q36 => ?_)
      obtain ⟨rfl, r35, rfl, rfl, rfl, rfl, rfl⟩ := q36
      refine z_callV (As := [.int (bP (I32 160 8 = 5 ∧ sSg I32 (I32 160 6) = 41))]) (st := []) dX12_behindUnit_189 zl_X12_294 zv_X12_must (by decide) rfl zn_160 zo_160 rfl rfl (Nat.le_of_ble_eq_true rfl) ⟨Nat.le_refl _, Nat.le_refl _⟩ ⟨Nat.le_refl _, Nat.le_refl _⟩ hv (fun v1 I37 L38 P39 nx1 q40 => ?_)
      obtain ⟨rfl, rfl, hv⟩ := q40
      refine z_aload_n dX12_behindUnit_192 rfl ?_
      obtain ⟨h42, hv⟩ := hv
      refine z_getP dX12_behindUnit_193 zf_X12_68 zn_160 zo_160 (fun _ _ _ _ _ => rfl) (h42 160 26 178 zp_160_26) ?_
      refine z_aload_n dX12_behindUnit_196 rfl ?_
      refine z_getI dX12_behindUnit_197 zf_X12_311 zn_160 zo_160 (fun _ _ _ _ _ => rfl) ?_
      obtain ⟨h43, hv⟩ := hv
      refine z_iaload dX12_behindUnit_200 zn_178 zh_178 h43 ?_
      refine z_bipush (v := 40) dX12_behindUnit_201 (by decide) ?_
      refine z_icmp_eq (tgt := 228) dX12_behindUnit_203 (by decide) (fun q44 => ?_) (fun q44 => ?_)
      · have hv := hv.1 q44
        refine z_iconst (v := 0) dX12_behindUnit_228 (by decide) ?_
        exact z_ireturn dX12_behindUnit_229 rfl (by decide) (Nat.le_refl _) (Nat.le_refl _) hv
      · have hv := hv.2 q44
        refine z_aload_n dX12_behindUnit_206 rfl ?_
        refine z_aload_n dX12_behindUnit_207 rfl ?_
        refine z_getP dX12_behindUnit_208 zf_X12_68 zn_160 zo_160 (fun _ _ _ _ _ => rfl) (h42 160 26 178 zp_160_26) ?_
        refine z_aload_n dX12_behindUnit_211 rfl ?_
        refine z_getI dX12_behindUnit_212 zf_X12_311 zn_160 zo_160 (fun _ _ _ _ _ => rfl) ?_
        refine z_iaload dX12_behindUnit_215 zn_178 zh_178 h43 ?_
        refine z_aload_n dX12_behindUnit_216 rfl ?_
        refine z_getP dX12_behindUnit_217 zf_X12_71 zn_160 zo_160 (fun _ _ _ _ _ => rfl) (h42 160 27 179 zp_160_27) ?_
        refine z_aload_n dX12_behindUnit_220 rfl ?_
        refine z_getI dX12_behindUnit_221 zf_X12_311 zn_160 zo_160 (fun _ _ _ _ _ => rfl) ?_
        refine z_iaload dX12_behindUnit_224 zn_179 zh_179 h43 ?_
        refine z_callV (As := [.int (I37 178 (I37 160 34).toNatClampNeg), .int (I37 179 (I37 160 34).toNatClampNeg)]) (st := []) dX12_behindUnit_225 zl_X12_330 zv_X12_emit (by decide) rfl zn_160 zo_160 rfl rfl (Nat.le_of_ble_eq_true rfl) ⟨Nat.le_refl _, Nat.le_refl _⟩ ⟨Nat.le_refl _, Nat.le_refl _⟩ hv (fun v1 I45 L46 P47 nx1 q48 => ?_)
        obtain ⟨rfl, rfl, hv⟩ := q48
        refine z_iconst (v := 0) dX12_behindUnit_228 (by decide) ?_
        exact z_ireturn dX12_behindUnit_229 rfl (by decide) (Nat.le_refl _) (Nat.le_refl _) hv
  · have hv := hv.2 q27
    refine z_aload_n dX12_behindUnit_108 rfl ?_
    refine z_iload_n dX12_behindUnit_109 rfl ?_
    refine z_iload_n dX12_behindUnit_110 rfl ?_
    refine z_iconst (v := 2) dX12_behindUnit_111 (by decide) ?_
    refine z_icmp_ne (tgt := 120) dX12_behindUnit_112 (by decide) (fun q50 => ?_) (fun q50 => ?_)
    · have hv := hv.1 q50
      refine z_iload_n dX12_behindUnit_120 rfl ?_
      refine z_iconst (v := 1) dX12_behindUnit_121 (by decide) ?_
      refine z_icmp_ne (tgt := 130) dX12_behindUnit_122 (by decide) (fun q51 => ?_) (fun q51 => ?_)
      · have hv := hv.1 q51
        refine z_aload_n dX12_behindUnit_130 rfl ?_
        refine z_aload_n dX12_behindUnit_131 rfl ?_
        refine z_getI dX12_behindUnit_132 zf_X12_198 zn_160 zo_160 (fun _ _ _ _ _ => rfl) ?_
        obtain ⟨h52, hv⟩ := hv
        refine z_callV (As := [.int (I 160 6)]) (st := [.int x1, .ref 160]) dX12_behindUnit_135 zl_X12_201 zv_X12_sign (by decide) rfl zn_160 zo_160 rfl rfl (Nat.le_of_ble_eq_true rfl) ⟨Nat.le_refl _, Nat.le_refl _⟩ ⟨Nat.le_refl _, Nat.le_refl _⟩ (sp_X12_sign hP h52 (K := fun r I' L' P' => sSg I (I 160 6) = r ∧ I = I' ∧ L = L' ∧ P = P') ⟨rfl, rfl, rfl, rfl⟩) (fun v1 I2 L2 P2 nx1 q54 => ?_)
        obtain ⟨rfl, r53, rfl, rfl, rfl, rfl, rfl⟩ := q54
        exact z_sub (by exact ⟨rfl, trivial⟩) hv
      · have hv := hv.2 q51
        refine z_bipush (v := 124) dX12_behindUnit_125 (by decide) ?_
        refine z_goto (tgt := 138) dX12_behindUnit_127 (by decide) ?_
        exact z_sub (by exact ⟨rfl, trivial⟩) hv
    · have hv := hv.2 q50
      refine z_bipush (v := 38) dX12_behindUnit_115 (by decide) ?_
      refine z_goto (tgt := 138) dX12_behindUnit_117 (by decide) ?_
      exact z_sub (by exact ⟨rfl, trivial⟩) hv
abbrev v_X12_behindUnit_87 (d : Nat) (Q : zQt) (x1 : Int32) (I : zI) (L : zL) (P : zP) : Prop :=
  vp_in (I 160 34) 90 ∧
  zMv zm_X12_emit d [.ref 160, .int (I 178 (I 160 34).toNatClampNeg), .int 0] I L P (fun I56 L57 P58 =>
    gw_X12_behindUnit (d + 1) Q 23 [some (.ref 160), some (.int x1)] [] I56 L57 P58
  )
set_option maxRecDepth 20000 in
theorem g_X12_behindUnit_87 {d : Nat} {Q : zQt} {x1 : Int32} {I : zI} {L : zL} {P : zP} (hP : zPk P) (hd : 1 ≤ d) (hv : v_X12_behindUnit_87 d Q x1 I L P) : gw_X12_behindUnit (d + 1) Q 87 [some (.ref 160), some (.int x1)] [] I L P := by
  unfold v_X12_behindUnit_87 at hv
  refine z_aload_n dX12_behindUnit_87 rfl ?_
  refine z_aload_n dX12_behindUnit_88 rfl ?_
  refine z_getP dX12_behindUnit_89 zf_X12_68 zn_160 zo_160 (fun _ _ _ _ _ => rfl) (hP 160 26 178 zp_160_26) ?_
  refine z_aload_n dX12_behindUnit_92 rfl ?_
  refine z_getI dX12_behindUnit_93 zf_X12_311 zn_160 zo_160 (fun _ _ _ _ _ => rfl) ?_
  obtain ⟨h55, hv⟩ := hv
  refine z_iaload dX12_behindUnit_96 zn_178 zh_178 h55 ?_
  refine z_iconst (v := 0) dX12_behindUnit_97 (by decide) ?_
  refine z_callV (As := [.int (I 178 (I 160 34).toNatClampNeg), .int 0]) (st := []) dX12_behindUnit_98 zl_X12_330 zv_X12_emit (by decide) rfl zn_160 zo_160 rfl rfl (Nat.le_of_ble_eq_true rfl) ⟨Nat.le_refl _, Nat.le_refl _⟩ ⟨Nat.le_refl _, Nat.le_refl _⟩ hv (fun v1 I56 L57 P58 nx1 q59 => ?_)
  obtain ⟨rfl, rfl, hv⟩ := q59
  refine z_goto (tgt := 23) dX12_behindUnit_101 (by decide) ?_
  exact hv
abbrev v_X12_behindUnit_23 (d : Nat) (Q : zQt) (x1 : Int32) (I : zI) (L : zL) (P : zP) : Prop :=
  vp_in ((I 160 34) - 1) 90 ∧
  ((6 < (I 177 ((I 160 34) - 1).toNatClampNeg) →
    gw_X12_behindUnit (d + 1) Q 104 [some (.ref 160), some (.int x1)] [] I L P
  ) ∧ (¬ 6 < (I 177 ((I 160 34) - 1).toNatClampNeg) →
    (((I 177 ((I 160 34) - 1).toNatClampNeg) < x1 →
      gw_X12_behindUnit (d + 1) Q 104 [some (.ref 160), some (.int x1)] [] I L P
    ) ∧ (¬ (I 177 ((I 160 34) - 1).toNatClampNeg) < x1 →
      ∀ I21 : zI, I21 = zuI I 160 34 ((I 160 34) - 1) →
      vp_in (I21 160 34) 90 ∧
      ((¬ (I21 177 (I21 160 34).toNatClampNeg) = 3 →
        gw_X12_behindUnit (d + 1) Q 87 [some (.ref 160), some (.int x1)] [] I21 L P
      ) ∧ ((I21 177 (I21 160 34).toNatClampNeg) = 3 →
        ∀ I25 : zI, I25 = zuI I21 160 33 ((I21 160 33) - 1) →
        gw_X12_behindUnit (d + 1) Q 87 [some (.ref 160), some (.int x1)] [] I25 L P
      ))
    ))
  ))
set_option maxRecDepth 20000 in
theorem g_X12_behindUnit_23 {d : Nat} {Q : zQt} {x1 : Int32} {I : zI} {L : zL} {P : zP} (hP : zPk P) (hd : 1 ≤ d) (hv : v_X12_behindUnit_23 d Q x1 I L P) : gw_X12_behindUnit (d + 1) Q 23 [some (.ref 160), some (.int x1)] [] I L P := by
  unfold v_X12_behindUnit_23 at hv
  refine z_aload_n dX12_behindUnit_23 rfl ?_
  refine z_getP dX12_behindUnit_24 zf_X12_65 zn_160 zo_160 (fun _ _ _ _ _ => rfl) (hP 160 25 177 zp_160_25) ?_
  refine z_aload_n dX12_behindUnit_27 rfl ?_
  refine z_getI dX12_behindUnit_28 zf_X12_311 zn_160 zo_160 (fun _ _ _ _ _ => rfl) ?_
  refine z_iconst (v := 1) dX12_behindUnit_31 (by decide) ?_
  refine z_isub dX12_behindUnit_32 ?_
  obtain ⟨h18, hv⟩ := hv
  refine z_iaload dX12_behindUnit_33 zn_177 zh_177 h18 ?_
  refine z_bipush (v := 6) dX12_behindUnit_34 (by decide) ?_
  refine z_icmp_gt (tgt := 104) dX12_behindUnit_36 (by decide) (fun q19 => ?_) (fun q19 => ?_)
  · have hv := hv.1 q19
    exact hv
  · have hv := hv.2 q19
    refine z_aload_n dX12_behindUnit_39 rfl ?_
    refine z_getP dX12_behindUnit_40 zf_X12_65 zn_160 zo_160 (fun _ _ _ _ _ => rfl) (hP 160 25 177 zp_160_25) ?_
    refine z_aload_n dX12_behindUnit_43 rfl ?_
    refine z_getI dX12_behindUnit_44 zf_X12_311 zn_160 zo_160 (fun _ _ _ _ _ => rfl) ?_
    refine z_iconst (v := 1) dX12_behindUnit_47 (by decide) ?_
    refine z_isub dX12_behindUnit_48 ?_
    refine z_iaload dX12_behindUnit_49 zn_177 zh_177 h18 ?_
    refine z_iload_n dX12_behindUnit_50 rfl ?_
    refine z_icmp_lt (tgt := 104) dX12_behindUnit_51 (by decide) (fun q20 => ?_) (fun q20 => ?_)
    · have hv := hv.1 q20
      exact hv
    · have hv := hv.2 q20
      refine z_aload_n dX12_behindUnit_54 rfl ?_
      refine z_dup dX12_behindUnit_55 rfl ?_
      refine z_getI dX12_behindUnit_56 zf_X12_311 zn_160 zo_160 (fun _ _ _ _ _ => rfl) ?_
      refine z_iconst (v := 1) dX12_behindUnit_59 (by decide) ?_
      refine z_isub dX12_behindUnit_60 ?_
      refine z_putI dX12_behindUnit_61 zf_X12_311 zn_160 zo_160 (Or.inl rfl) (fun _ _ _ _ _ => rfl) rfl rfl (z_nmI (fun I21 e22 => ?_))
      have hv := hv I21 e22
      refine z_aload_n dX12_behindUnit_64 rfl ?_
      refine z_getP dX12_behindUnit_65 zf_X12_65 zn_160 zo_160 (fun _ _ _ _ _ => rfl) (hP 160 25 177 zp_160_25) ?_
      refine z_aload_n dX12_behindUnit_68 rfl ?_
      refine z_getI dX12_behindUnit_69 zf_X12_311 zn_160 zo_160 (fun _ _ _ _ _ => rfl) ?_
      obtain ⟨h23, hv⟩ := hv
      refine z_iaload dX12_behindUnit_72 zn_177 zh_177 h23 ?_
      refine z_iconst (v := 3) dX12_behindUnit_73 (by decide) ?_
      refine z_icmp_ne (tgt := 87) dX12_behindUnit_74 (by decide) (fun q24 => ?_) (fun q24 => ?_)
      · have hv := hv.1 q24
        exact hv
      · have hv := hv.2 q24
        refine z_aload_n dX12_behindUnit_77 rfl ?_
        refine z_dup dX12_behindUnit_78 rfl ?_
        refine z_getI dX12_behindUnit_79 zf_X12_314 zn_160 zo_160 (fun _ _ _ _ _ => rfl) ?_
        refine z_iconst (v := 1) dX12_behindUnit_82 (by decide) ?_
        refine z_isub dX12_behindUnit_83 ?_
        refine z_putI dX12_behindUnit_84 zf_X12_314 zn_160 zo_160 (Or.inl rfl) (fun _ _ _ _ _ => rfl) rfl rfl (z_nmI (fun I25 e26 => ?_))
        have hv := hv I25 e26
        exact hv
abbrev v_X12_behindUnit (d : Nat) (Q : zQt)  (I : zI) (L : zL) (P : zP) : Prop :=
  zMi zm_X12_rankHere d [.ref 160] I L P (fun r5 I1 L2 P3 =>
    ((¬ r5 = 4 →
      gw_X12_behindUnit (d + 1) Q 23 [some (.ref 160), some (.int r5)] [] I1 L2 P3
    ) ∧ (r5 = 4 →
      zMi zm_X12_isCompared d [.ref 160] I1 L2 P3 (fun r11 I7 L8 P9 =>
        ((r11 = 0 →
          gw_X12_behindUnit (d + 1) Q 23 [some (.ref 160), some (.int r5)] [] I7 L8 P9
        ) ∧ (¬ r11 = 0 →
          zMv zm_X12_misplaced d [.ref 160] I7 L8 P9 (fun I13 L14 P15 =>
            Q (some (.int 1)) I13 L14 P15 205
          )
        ))
      )
    ))
  )
set_option maxRecDepth 20000 in
theorem g_X12_behindUnit {d : Nat} {Q : zQt}  {I : zI} {L : zL} {P : zP} (hP : zPk P) (hd : 1 ≤ d) (hv : v_X12_behindUnit d Q  I L P) : zM zm_X12_behindUnit (d + 1) 0 0 [.ref 160] I L P 205 Q := by
  unfold v_X12_behindUnit at hv
  refine zM_of (lv0 := [some (.ref 160), none]) (by decide +kernel) (Nat.le_of_ble_eq_true rfl) rfl ?_
  refine z_aload_n dX12_behindUnit_0 rfl ?_
  refine z_callV (As := []) (st := []) dX12_behindUnit_1 zl_X12_333 zv_X12_rankHere (by decide) rfl zn_160 zo_160 rfl rfl (Nat.le_of_ble_eq_true rfl) ⟨Nat.le_refl _, Nat.le_refl _⟩ ⟨Nat.le_refl _, Nat.le_refl _⟩ hv (fun v1 I1 L2 P3 nx1 q4 => ?_)
  obtain ⟨rfl, r5, rfl, hv⟩ := q4
  refine z_istore_n (lv2 := [some (.ref 160), some (.int r5)]) dX12_behindUnit_4 (by decide) rfl rfl ?_
  refine z_iload_n dX12_behindUnit_5 rfl ?_
  refine z_iconst (v := 4) dX12_behindUnit_6 (by decide) ?_
  refine z_icmp_ne (tgt := 23) dX12_behindUnit_7 (by decide) (fun q6 => ?_) (fun q6 => ?_)
  · have hv := hv.1 q6
    exact hv
  · have hv := hv.2 q6
    refine z_aload_n dX12_behindUnit_10 rfl ?_
    refine z_callV (As := []) (st := []) dX12_behindUnit_11 zl_X12_336 zv_X12_isCompared (by decide) rfl zn_160 zo_160 rfl rfl (Nat.le_of_ble_eq_true rfl) ⟨Nat.le_refl _, Nat.le_refl _⟩ ⟨Nat.le_refl _, Nat.le_refl _⟩ hv (fun v1 I7 L8 P9 nx1 q10 => ?_)
    obtain ⟨rfl, r11, rfl, hv⟩ := q10
    refine z_if_eq (tgt := 23) dX12_behindUnit_14 (by decide) (fun q12 => ?_) (fun q12 => ?_)
    · have hv := hv.1 q12
      exact hv
    · have hv := hv.2 q12
      refine z_aload_n dX12_behindUnit_17 rfl ?_
      refine z_callV (As := []) (st := []) dX12_behindUnit_18 zl_X12_240 zv_X12_misplaced (by decide) rfl zn_160 zo_160 rfl rfl (Nat.le_of_ble_eq_true rfl) ⟨Nat.le_refl _, Nat.le_refl _⟩ ⟨Nat.le_refl _, Nat.le_refl _⟩ hv (fun v1 I13 L14 P15 nx1 q16 => ?_)
      obtain ⟨rfl, rfl, hv⟩ := q16
      refine z_iconst (v := 1) dX12_behindUnit_21 (by decide) ?_
      exact z_ireturn dX12_behindUnit_22 rfl (by decide) (Nat.le_refl _) (Nat.le_refl _) hv
section BEH
variable {d : Nat} {Q : zQt} {I0 : zI} {L0 : zL} {T : Nat → Int32} {n b R ua lim : Nat} {p0 : Int32} {L : zL} {P : zP} {e u : Nat}
theorem lp_X12_behindUnit_104 {I : zI} {S : List Ent} {q : Ent} {w r : Nat} {c : List (Int32 × Int32)} (hP : zPk P) (hC : cX I0 ua lim b R) (hS : (q :: S).length < 90) (hc : c.length < R) (ho : sOk (q :: S) w) (hw : w < 8) (er : r = rkH (tK T n e)) (hq : 6 < q.1 ∨ q.1 < r) (hsg : q.2.1 < 128) (hd : 3 ≤ d) (hm : mN I0 L0 T n b R ua 0 p0 I L (q :: S) w e u c)
    (kk : mQ I0 L0 T n b R ua p0 Q P (bRest T n r (q :: S) w e u c)) : gw_X12_behindUnit (d + 1) Q 104 [some (.ref 160), some (.int (nI r))] [] I L P := by
  have r7 : r < 7 := by rw [er]; exact rkH_lt _
  have z0 : nI r ≤ 0 ↔ r ≤ 0 := nI_leI (b := 0) (by omega) (by decide)
  have z1 : nI r = 1 ↔ r = 1 := nI_eq (b := 1) (by omega) (by decide)
  have z2 : nI r = 2 ↔ r = 2 := nI_eq (b := 2) (by omega) (by decide)
  have hl : S.length < 90 := by rw [List.length_cons] at hS; omega
  obtain ⟨g1, g2⟩ := pS_g hm.2.1
  unfold bRest at kk
  refine g_X12_behindUnit_104 hP (by omega) ?_
  unfold v_X12_behindUnit_104
  rw [z0, z1, z2]
  have push : ∀ ch : Nat, 0 < r → ch = bChr r (tK T n e) → gw_X12_behindUnit (d + 1) Q 138 [some (.ref 160), none] [.int (nI ch), .int (nI r), .ref 160] I L P := by
    intro ch hr ech
    rw [if_pos hr, ← ech] at kk
    refine g_X12_behindUnit_138 hP (by omega) (mN_pu hP hS hm (fun I' h1 => ?_))
    exact pS_go hP h1.2.1 (by omega) (fun I2 L2 f1 f2 f3 => kk I2 L2 (mN_go h1 f1 f2 f3))
  refine ⟨fun hr => ?_, fun hr => ⟨fun n2 => ⟨fun n1 => ?_, fun n1 => ?_⟩, fun n2 => ?_⟩⟩
  · rw [if_neg (by omega)] at kk
    obtain ⟨p1, p2, p3⟩ := mN_po hl hm
    have f1 : zFr [] [34] I (zuI I 160 34 (I 160 34 - 1)) := zFr_s (zFr_rf _ _ _) (by decide)
    have s177 := hm.2.2.2.1.2.1
    have z7 : nI q.1 = 7 ↔ q.1 = 7 := nI_eq (b := 7) (by have := (sOk_ne ho).2.1; omega) (by decide)
    intro I1 e1
    rw [← e1] at p1 p3 f1
    rw [p3, nI_cl (by omega), f1.1 177 (by decide) (by decide), s177.1, z7]
    refine ⟨nx_in hl (by decide), fun n7 => ?_, fun e7 I2 e2 => ?_⟩
    · have kk : mQ I0 L0 T n b R ua p0 Q P (if q.1 = 7 then _ else mT false S w e u c) := kk
      rw [if_neg n7] at kk
      exact kk I1 L p1
    · have kk : mQ I0 L0 T n b R ua p0 Q P (if q.1 = 7 then (@ite _ (tK T n e = 41) (Classical.propDecidable _) (mT false S (w - 1) (tE T n e) u (if q.2.1 = 40 then c else c ++ [(nI q.2.1, q.2.2)])) (mBad T n e)) else _) := kk
      rw [if_pos e7] at kk
      have w1 := ((sOk_ne ho).2.2.2.1 e7).1
      have ew : I1 160 33 - 1 = nI (w - 1) := by rw [p1.2.2.2.2.1, show (1 : Int32) = nI 1 from rfl, pk_sub w1]
      rw [ew] at e2
      have h2 := mN_w (w' := w - 1) p1
      have f2 : zFr [] [33] I1 I2 := by rw [e2]; exact zFr_s (zFr_rf _ _ _) (by decide)
      rw [← e2] at h2
      clear e2
      obtain ⟨g3, g4⟩ := pS_g h2.2.1
      have a41 : (I2 160 8 = 5 ∧ sSg I2 (I2 160 6) = 41) ↔ tK T n e = 41 := g4 41 (by decide) (by decide)
      rw [bP_c a41]
      have s178 : I2 178 S.length = nI q.2.1 := by rw [f2.1 178 (by decide) (by decide), f1.1 178 (by decide) (by decide)]; exact s177.2.1
      have s179 : I2 179 S.length = q.2.2 := by rw [f2.1 179 (by decide) (by decide), f1.1 179 (by decide) (by decide)]; exact s177.2.2
      have z40 : nI q.2.1 = 40 ↔ q.2.1 = 40 := nI_eq (b := 40) (by omega) (by decide)
      refine ⟨g3, sp_X12_must hP h2.2.2.1.1 h2.2.1 (by omega) (fun n41 => ?_) (fun e41 I3 L3 h1 h2' h3 => ?_)⟩
      · rw [if_neg n41] at kk
        have hf := pFt_fr I2 (mis T n e) (tA T n e)
        have hm3 := mN_ft (mis T n e) (tA T n e) h2
        rw [hm3.2.2.2.1.1, nI_cl (by omega), hf.1 178 (by decide) (by decide), hf.1 179 (by decide) (by decide), s178, s179]
        refine ⟨hP, nx_in hl (by decide), fun _ => kk 0 _ L hm3.1 hm3.2.2.1.1 hm3.2.2.1.2 (pS_p hm3.2.1), fun _ => ?_⟩
        exact mN_em hP hc hC.2.2.2.2.2 hm3 (fun I4 h4 => kk 0 I4 L h4.1 h4.2.2.1.1 h4.2.2.1.2 (pS_p h4.2.1))
      · rw [if_pos e41] at kk
        have hm3 := mN_go h2 h1 h2' h3
        rw [hm3.2.2.2.1.1, nI_cl (by omega), h1.1 178 (by decide) (by decide), h1.1 179 (by decide) (by decide), s178, s179, z40]
        refine ⟨hP, nx_in hl (by decide), fun y => ?_, fun y => ?_⟩
        · rw [if_pos y] at kk; exact kk I3 L3 hm3
        · rw [if_neg y] at kk
          exact mN_em hP hc hC.2.2.2.2.2 hm3 (fun I4 h4 => kk I4 L3 h4)
  · obtain ⟨k1, k2⟩ := rkH_sg (k := tK T n e) (by omega) (by omega) (by omega)
    obtain ⟨y1, y2⟩ := (g2 _ k1 k2).mpr rfl
    refine ⟨g1 y1, ?_⟩
    rw [y2]
    exact push _ (by omega) (by unfold bChr; rw [if_neg n2, if_neg n1])
  · exact push 124 (by omega) (by unfold bChr; rw [if_neg n2, if_pos n1])
  · exact push 38 (by omega) (by unfold bChr; rw [if_pos n2])
theorem lp_X12_behindUnit_23 {r : Nat} (hP : zPk P) (hC : cX I0 ua lim b R) (er : r = rkH (tK T n e)) (hd : 3 ≤ d) : ∀ (S : List Ent) (q : Ent) (w : Nat) (c : List (Int32 × Int32)) (I : zI), (q :: S).length < 90 → c.length + S.length < R → sOk (q :: S) w → w < 8 → (∀ x ∈ q :: S, x.2.1 < 128) → mN I0 L0 T n b R ua 0 p0 I L (q :: S) w e u c →
    mQ I0 L0 T n b R ua p0 Q P (bRest T n r (bPop r (q :: S) w c).1 (bPop r (q :: S) w c).2.1 e u (bPop r (q :: S) w c).2.2) → gw_X12_behindUnit (d + 1) Q 23 [some (.ref 160), some (.int (nI r))] [] I L P := by
  have r7 : r < 7 := by rw [er]; exact rkH_lt _
  intro S
  induction S with
  | nil =>
    intro q w c I hS hc ho hw hsg hm kk
    have h6 : 6 < q.1 := Nat.lt_of_not_le (fun z => (sOk_ne ho).1 z |>.1 rfl)
    have h9 := (sOk_ne ho).2.1
    have ek : I 160 34 - 1 = nI 0 := (mN_po (by decide) hm).2.1
    have e177 : I 177 (I 160 34 - 1).toNatClampNeg = nI q.1 := by rw [ek, nI_cl (by decide)]; exact hm.2.2.2.1.2.1.1
    have z6 : (6 : Int32) < nI q.1 ↔ 6 < q.1 := nI_ltI (a := 6) (by decide) (by omega)
    refine g_X12_behindUnit_23 hP (by omega) ⟨by rw [ek]; exact nx_in (by decide) (by decide), fun _ => ?_, fun z => absurd (by rw [e177, z6]; exact h6) z⟩
    have ep : bPop r [q] w c = ([q], w, c) := if_neg (fun z => by omega)
    rw [ep] at kk
    exact lp_X12_behindUnit_104 hP hC hS (by omega) ho hw er (Or.inl h6) (hsg q (by simp)) hd hm kk
  | cons q' S ih =>
    intro q w c I hS hc ho hw hsg hm kk
    have h9 := (sOk_ne ho).2.1
    rw [List.length_cons] at hc
    have hl : (q' :: S).length < 90 := by rw [List.length_cons] at hS; omega
    obtain ⟨p1, p2, p3⟩ := mN_po hl hm
    have e177 : I 177 (I 160 34 - 1).toNatClampNeg = nI q.1 := by rw [p2, nI_cl (by omega)]; exact hm.2.2.2.1.2.1.1
    have z6 : (6 : Int32) < nI q.1 ↔ 6 < q.1 := nI_ltI (a := 6) (by decide) (by omega)
    have zr : nI q.1 < nI r ↔ q.1 < r := nI_ltI (by omega) (by omega)
    have z3 : nI q.1 = 3 ↔ q.1 = 3 := nI_eq (b := 3) (by omega) (by decide)
    have stop : (6 < q.1 ∨ q.1 < r) → gw_X12_behindUnit (d + 1) Q 104 [some (.ref 160), some (.int (nI r))] [] I L P := by
      intro hq
      have ep : bPop r (q :: q' :: S) w c = (q :: q' :: S, w, c) := if_neg (fun z => by omega)
      rw [ep] at kk
      exact lp_X12_behindUnit_104 hP hC hS (by omega) ho hw er hq (hsg q (by simp)) hd hm kk
    refine g_X12_behindUnit_23 hP (by omega) ⟨by rw [p2]; exact nx_in hl (by decide), ?_⟩
    rw [e177, z6, zr]
    refine ⟨fun z => stop (Or.inl z), fun n6 => ⟨fun z => stop (Or.inr z), fun nr I1 e1 => ?_⟩⟩
    have ep : bPop r (q :: q' :: S) w c = bPop r (q' :: S) (if q.1 = 3 then w - 1 else w) (c ++ [(nI q.2.1, 0)]) := if_pos (by omega)
    rw [ep] at kk
    have f1 : zFr [] [34] I I1 := by rw [e1]; exact zFr_s (zFr_rf _ _ _) (by decide)
    rw [← e1] at p1 p3
    have s177 := hm.2.2.2.1.2.1
    have emit : ∀ I2 w', mN I0 L0 T n b R ua 0 p0 I2 L (q' :: S) w' e u c → I2 178 (q' :: S).length = nI q.2.1 → w' < 8 → sOk (q' :: S) w' → w' = (if q.1 = 3 then w - 1 else w) → gw_X12_behindUnit (d + 1) Q 87 [some (.ref 160), some (.int (nI r))] [] I2 L P := by
      intro I2 w' h2 s178 hw' ho' ew
      refine g_X12_behindUnit_87 hP (by omega) ⟨by rw [h2.2.2.2.1.1]; exact nx_in hl (by decide), ?_⟩
      rw [h2.2.2.2.1.1, nI_cl (by omega), s178]
      refine mN_em hP (by omega) hC.2.2.2.2.2 h2 (fun I3 h3 => ?_)
      rw [← ew] at kk
      exact ih q' w' _ I3 hl (by rw [List.length_append, List.length_singleton]; omega) ho' hw' (fun x hx => hsg x (List.mem_cons_of_mem _ hx)) h3 kk
    rw [p3, nI_cl (by omega), f1.1 177 (by decide) (by decide), s177.1, z3]
    refine ⟨nx_in hl (by decide), fun n3 => ?_, fun e3 I2 e2 => ?_⟩
    · refine emit I1 w p1 (by rw [f1.1 178 (by decide) (by decide)]; exact s177.2.1) hw ?_ (by rw [if_neg n3])
      exact (sOk_ne ho).2.2.2.2.2.1 (by omega) n3
    · have w1 := (sOk_ne ho).2.2.1 e3
      have ew : I1 160 33 - 1 = nI (w - 1) := by rw [p1.2.2.2.2.1, show (1 : Int32) = nI 1 from rfl, pk_sub w1]
      rw [ew] at e2
      have h2 := mN_w (w' := w - 1) p1
      have f2 : zFr [] [33] I1 I2 := by rw [e2]; exact zFr_s (zFr_rf _ _ _) (by decide)
      rw [← e2] at h2
      exact emit I2 (w - 1) h2 (by rw [f2.1 178 (by decide) (by decide), f1.1 178 (by decide) (by decide)]; exact s177.2.1) (by omega) ((sOk_ne ho).2.2.2.2.1 e3) (by rw [if_pos e3])
theorem sp_X12_behindUnit {I : zI} {S : List Ent} {q : Ent} {w : Nat} {c : List (Int32 × Int32)} (hP : zPk P) (hC : cX I0 ua lim b R) (hS : (q :: S).length < 90) (hc : c.length + S.length < R) (ho : sOk (q :: S) w) (hw : w < 8) (hsg : ∀ x ∈ q :: S, x.2.1 < 128) (hd : 4 ≤ d) (hm : mN I0 L0 T n b R ua 0 p0 I L (q :: S) w e u c) {K : Int32 → zI → zL → zP → Prop}
    (kk : mQ I0 L0 T n b R ua p0 (fun v I' L' P' nx' => nx' = 205 ∧ ∃ r', v = some (.int r') ∧ K r' I' L' P') P (bStep T n (q :: S) w e u c)) : zMi zm_X12_behindUnit d [.ref 160] I L P K := by
  obtain ⟨d, rfl⟩ : ∃ e, d = e + 1 := ⟨d - 1, by omega⟩
  have r7 := rkH_lt (tK T n e)
  have z4 : nI (rkH (tK T n e)) = 4 ↔ rkH (tK T n e) = 4 := nI_eq (b := 4) (by omega) (by decide)
  unfold bStep at kk
  refine g_X12_behindUnit hP (by omega) (sp_X12_rankHere hP hm.2.1 (by omega) ?_)
  rw [z4]
  refine ⟨fun n4 => ?_, fun e4 => sp_X12_isCompared hP hS ho hm.2.2.2.1.2 hm.2.2.2.1.1 ⟨fun n => ?_, fun y => ?_⟩⟩
  · rw [if_neg (fun z => n4 z.1)] at kk
    exact lp_X12_behindUnit_23 hP hC rfl (by omega) S q w c I hS hc ho hw hsg hm kk
  · rw [if_neg (fun z => bP_0.mp n z.2)] at kk
    exact lp_X12_behindUnit_23 hP hC rfl (by omega) S q w c I hS hc ho hw hsg hm kk
  · rw [if_pos ⟨e4, bP_n.mp y⟩] at kk
    have v := pFt_v I (mis T n e) (tA T n e)
    exact sp_X12_misplaced hP hm.2.2.1.1 hm.2.1 (by omega) (kk 1 _ L (mN_ft _ _ hm).1 v.1 v.2 (pS_p (mN_ft _ _ hm).2.1))
end BEH
