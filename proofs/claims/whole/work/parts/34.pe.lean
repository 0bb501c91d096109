/-! ===== the model: what stands here, emit, push ===== -/
/-- the model's letter of a unit's first token; 0: none -/
def uH (k : Nat) : Nat := if k = 274 then 110 else if k = 40 then 40 else if k = 268 then 109 else if k = 262 then 104 else if k = 269 then 103 else if k = 270 then 107 else if k = 271 then 97 else if k = 272 then 99 else 0
/-- the model's rank of a joint; 0: none -/
def rkH (k : Nat) : Nat := if k = 266 then 2 else if k = 265 then 1 else if k = 60 ∨ k = 62 ∨ k = 61 then 4 else if k = 43 ∨ k = 45 then 5 else if k = 42 ∨ k = 47 then 6 else 0
section UH
variable {d : Nat} {T : Nat → Int32} {n e : Nat} {I : zI} {L : zL} {P : zP}
abbrev gw_X12_unitHere (d : Nat) (Q : zQt) (pc : Nat) (lv : zV) (st : List Value) (I : zI) (L : zL) (P : zP) : Prop := zW zm_X12_unitHere (zRm d 0 0) 0 0 Q pc lv st I L P 205 0 0
abbrev v_X12_unitHere (d : Nat) (Q : zQt)  (I : zI) (L : zL) (P : zP) : Prop :=
  ((¬ (I 160 8) = 4 →
    (I 160 8 = 5 → pSg I (I 160 6)) ∧
    (((bP (I 160 8 = 5 ∧ sSg I (I 160 6) = 40)) = 0 →
      (((bP (I 160 8 = 3 ∧ L 160 10 = 469786323827)) = 0 →
        (((bP (I 160 8 = 3 ∧ L 160 10 = 6840691)) = 0 →
          (((bP (I 160 8 = 3 ∧ L 160 10 = 1735356005)) = 0 →
            (((bP (I 160 8 = 3 ∧ L 160 10 = 461414299507)) = 0 →
              (((bP (I 160 8 = 3 ∧ L 160 10 = 6384748)) = 0 →
                (((bP (I 160 8 = 3 ∧ L 160 10 = 109330228408174)) = 0 →
                  Q (some (.int 0)) I L P 205
                ) ∧ (¬ (bP (I 160 8 = 3 ∧ L 160 10 = 109330228408174)) = 0 →
                  Q (some (.int 99)) I L P 205
                ))
              ) ∧ (¬ (bP (I 160 8 = 3 ∧ L 160 10 = 6384748)) = 0 →
                Q (some (.int 97)) I L P 205
              ))
            ) ∧ (¬ (bP (I 160 8 = 3 ∧ L 160 10 = 461414299507)) = 0 →
              Q (some (.int 107)) I L P 205
            ))
          ) ∧ (¬ (bP (I 160 8 = 3 ∧ L 160 10 = 1735356005)) = 0 →
            Q (some (.int 103)) I L P 205
          ))
        ) ∧ (¬ (bP (I 160 8 = 3 ∧ L 160 10 = 6840691)) = 0 →
          Q (some (.int 104)) I L P 205
        ))
      ) ∧ (¬ (bP (I 160 8 = 3 ∧ L 160 10 = 469786323827)) = 0 →
        Q (some (.int 109)) I L P 205
      ))
    ) ∧ (¬ (bP (I 160 8 = 5 ∧ sSg I (I 160 6) = 40)) = 0 →
      Q (some (.int 40)) I L P 205
    ))
  ) ∧ ((I 160 8) = 4 →
    Q (some (.int 110)) I L P 205
  ))
set_option maxRecDepth 20000 in
theorem g_X12_unitHere {d : Nat} {Q : zQt}  {I : zI} {L : zL} {P : zP} (hP : zPk P) (hd : 1 ≤ d) (hv : v_X12_unitHere d Q  I L P) : zM zm_X12_unitHere (d + 1) 0 0 [.ref 160] I L P 205 Q := by
  unfold v_X12_unitHere at hv
  refine zM_of (lv0 := [some (.ref 160)]) (by decide +kernel) (Nat.le_of_ble_eq_true rfl) rfl ?_
  refine z_aload_n dX12_unitHere_0 rfl ?_
  refine z_getI dX12_unitHere_1 zf_X12_205 zn_160 zo_160 (fun _ _ _ _ _ => rfl) ?_
  refine z_iconst (v := 4) dX12_unitHere_4 (by decide) ?_
  refine z_icmp_ne (tgt := 11) dX12_unitHere_5 (by decide) (fun q1 => ?_) (fun q1 => ?_)
  · have hv := hv.1 q1
    refine z_aload_n dX12_unitHere_11 rfl ?_
    refine z_bipush (v := 40) dX12_unitHere_12 (by decide) ?_
    obtain ⟨h2, hv⟩ := hv
    refine z_callV (As := [.int 40]) (st := []) dX12_unitHere_14 zl_X12_291 zv_X12_stands (by decide) rfl zn_160 zo_160 rfl rfl (Nat.le_of_ble_eq_true rfl) ⟨Nat.le_refl _, Nat.le_refl _⟩ ⟨Nat.le_refl _, Nat.le_refl _⟩ (sp_X12_stands hP h2 (by omega) (K := fun r I' L' P' => bP (I 160 8 = 5 ∧ sSg I (I 160 6) = 40) = r ∧ I = I' ∧ L = L' ∧ P = P') ⟨rfl, rfl, rfl, rfl⟩) (fun v1 I2 L2 P2 nx1 q4 => ?_)
    obtain ⟨rfl, r3, rfl, rfl, rfl, rfl, rfl⟩ := q4
    refine z_if_eq (tgt := 23) dX12_unitHere_17 (by decide) (fun q5 => ?_) (fun q5 => ?_)
    · have hv := hv.1 q5
      refine z_aload_n dX12_unitHere_23 rfl ?_
      refine z_ldc2 (v := 469786323827) dX12_unitHere_24 zj_X12_179 ?_
      refine z_callV (As := [.long 469786323827]) (st := []) dX12_unitHere_27 zl_X12_270 zv_X12_isWord (by decide) rfl zn_160 zo_160 rfl rfl (Nat.le_of_ble_eq_true rfl) ⟨Nat.le_refl _, Nat.le_refl _⟩ ⟨Nat.le_refl _, Nat.le_refl _⟩ (sp_X12_isWord hP (K := fun r I' L' P' => bP (I 160 8 = 3 ∧ L 160 10 = 469786323827) = r ∧ I = I' ∧ L = L' ∧ P = P') ⟨rfl, rfl, rfl, rfl⟩) (fun v1 I2 L2 P2 nx1 q7 => ?_)
      obtain ⟨rfl, r6, rfl, rfl, rfl, rfl, rfl⟩ := q7
      refine z_if_eq (tgt := 36) dX12_unitHere_30 (by decide) (fun q8 => ?_) (fun q8 => ?_)
      · have hv := hv.1 q8
        refine z_aload_n dX12_unitHere_36 rfl ?_
        refine z_ldc2 (v := 6840691) dX12_unitHere_37 zj_X12_173 ?_
        refine z_callV (As := [.long 6840691]) (st := []) dX12_unitHere_40 zl_X12_270 zv_X12_isWord (by decide) rfl zn_160 zo_160 rfl rfl (Nat.le_of_ble_eq_true rfl) ⟨Nat.le_refl _, Nat.le_refl _⟩ ⟨Nat.le_refl _, Nat.le_refl _⟩ (sp_X12_isWord hP (K := fun r I' L' P' => bP (I 160 8 = 3 ∧ L 160 10 = 6840691) = r ∧ I = I' ∧ L = L' ∧ P = P') ⟨rfl, rfl, rfl, rfl⟩) (fun v1 I2 L2 P2 nx1 q10 => ?_)
        obtain ⟨rfl, r9, rfl, rfl, rfl, rfl, rfl⟩ := q10
        refine z_if_eq (tgt := 49) dX12_unitHere_43 (by decide) (fun q11 => ?_) (fun q11 => ?_)
        · have hv := hv.1 q11
          refine z_aload_n dX12_unitHere_49 rfl ?_
          refine z_ldc2 (v := 1735356005) dX12_unitHere_50 zj_X12_181 ?_
          refine z_callV (As := [.long 1735356005]) (st := []) dX12_unitHere_53 zl_X12_270 zv_X12_isWord (by decide) rfl zn_160 zo_160 rfl rfl (Nat.le_of_ble_eq_true rfl) ⟨Nat.le_refl _, Nat.le_refl _⟩ ⟨Nat.le_refl _, Nat.le_refl _⟩ (sp_X12_isWord hP (K := fun r I' L' P' => bP (I 160 8 = 3 ∧ L 160 10 = 1735356005) = r ∧ I = I' ∧ L = L' ∧ P = P') ⟨rfl, rfl, rfl, rfl⟩) (fun v1 I2 L2 P2 nx1 q13 => ?_)
          obtain ⟨rfl, r12, rfl, rfl, rfl, rfl, rfl⟩ := q13
          refine z_if_eq (tgt := 62) dX12_unitHere_56 (by decide) (fun q14 => ?_) (fun q14 => ?_)
          · have hv := hv.1 q14
            refine z_aload_n dX12_unitHere_62 rfl ?_
            refine z_ldc2 (v := 461414299507) dX12_unitHere_63 zj_X12_183 ?_
            refine z_callV (As := [.long 461414299507]) (st := []) dX12_unitHere_66 zl_X12_270 zv_X12_isWord (by decide) rfl zn_160 zo_160 rfl rfl (Nat.le_of_ble_eq_true rfl) ⟨Nat.le_refl _, Nat.le_refl _⟩ ⟨Nat.le_refl _, Nat.le_refl _⟩ (sp_X12_isWord hP (K := fun r I' L' P' => bP (I 160 8 = 3 ∧ L 160 10 = 461414299507) = r ∧ I = I' ∧ L = L' ∧ P = P') ⟨rfl, rfl, rfl, rfl⟩) (fun v1 I2 L2 P2 nx1 q16 => ?_)
            obtain ⟨rfl, r15, rfl, rfl, rfl, rfl, rfl⟩ := q16
            refine z_if_eq (tgt := 75) dX12_unitHere_69 (by decide) (fun q17 => ?_) (fun q17 => ?_)
            · have hv := hv.1 q17
              refine z_aload_n dX12_unitHere_75 rfl ?_
              refine z_ldc2 (v := 6384748) dX12_unitHere_76 zj_X12_185 ?_
              refine z_callV (As := [.long 6384748]) (st := []) dX12_unitHere_79 zl_X12_270 zv_X12_isWord (by decide) rfl zn_160 zo_160 rfl rfl (Nat.le_of_ble_eq_true rfl) ⟨Nat.le_refl _, Nat.le_refl _⟩ ⟨Nat.le_refl _, Nat.le_refl _⟩ (sp_X12_isWord hP (K := fun r I' L' P' => bP (I 160 8 = 3 ∧ L 160 10 = 6384748) = r ∧ I = I' ∧ L = L' ∧ P = P') ⟨rfl, rfl, rfl, rfl⟩) (fun v1 I2 L2 P2 nx1 q19 => ?_)
              obtain ⟨rfl, r18, rfl, rfl, rfl, rfl, rfl⟩ := q19
              refine z_if_eq (tgt := 88) dX12_unitHere_82 (by decide) (fun q20 => ?_) (fun q20 => ?_)
              · have hv := hv.1 q20
                refine z_aload_n dX12_unitHere_88 rfl ?_
                refine z_ldc2 (v := 109330228408174) dX12_unitHere_89 zj_X12_187 ?_
                refine z_callV (As := [.long 109330228408174]) (st := []) dX12_unitHere_92 zl_X12_270 zv_X12_isWord (by decide) rfl zn_160 zo_160 rfl rfl (Nat.le_of_ble_eq_true rfl) ⟨Nat.le_refl _, Nat.le_refl _⟩ ⟨Nat.le_refl _, Nat.le_refl _⟩ (sp_X12_isWord hP (K := fun r I' L' P' => bP (I 160 8 = 3 ∧ L 160 10 = 109330228408174) = r ∧ I = I' ∧ L = L' ∧ P = P') ⟨rfl, rfl, rfl, rfl⟩) (fun v1 I2 L2 P2 nx1 q22 => ?_)
                obtain ⟨rfl, r21, rfl, rfl, rfl, rfl, rfl⟩ := q22
                refine z_if_eq (tgt := 103) dX12_unitHere_95 (by decide) (fun q23 => ?_) (fun q23 => ?_)
                · have hv := hv.1 q23
                  refine z_iconst (v := 0) dX12_unitHere_103 (by decide) ?_
                  exact z_ireturn dX12_unitHere_104 rfl rfl (Nat.le_refl _) (Nat.le_refl _) hv
                · have hv := hv.2 q23
                  refine z_bipush (v := 99) dX12_unitHere_98 (by decide) ?_
                  refine z_goto (tgt := 104) dX12_unitHere_100 (by decide) ?_
                  exact z_ireturn dX12_unitHere_104 rfl rfl (Nat.le_refl _) (Nat.le_refl _) hv
              · have hv := hv.2 q20
                refine z_bipush (v := 97) dX12_unitHere_85 (by decide) ?_
                exact z_ireturn dX12_unitHere_87 rfl rfl (Nat.le_refl _) (Nat.le_refl _) hv
            · have hv := hv.2 q17
              refine z_bipush (v := 107) dX12_unitHere_72 (by decide) ?_
              exact z_ireturn dX12_unitHere_74 rfl rfl (Nat.le_refl _) (Nat.le_refl _) hv
          · have hv := hv.2 q14
            refine z_bipush (v := 103) dX12_unitHere_59 (by decide) ?_
            exact z_ireturn dX12_unitHere_61 rfl rfl (Nat.le_refl _) (Nat.le_refl _) hv
        · have hv := hv.2 q11
          refine z_bipush (v := 104) dX12_unitHere_46 (by decide) ?_
          exact z_ireturn dX12_unitHere_48 rfl rfl (Nat.le_refl _) (Nat.le_refl _) hv
      · have hv := hv.2 q8
        refine z_bipush (v := 109) dX12_unitHere_33 (by decide) ?_
        exact z_ireturn dX12_unitHere_35 rfl rfl (Nat.le_refl _) (Nat.le_refl _) hv
    · have hv := hv.2 q5
      refine z_bipush (v := 40) dX12_unitHere_20 (by decide) ?_
      exact z_ireturn dX12_unitHere_22 rfl rfl (Nat.le_refl _) (Nat.le_refl _) hv
  · have hv := hv.2 q1
    refine z_bipush (v := 110) dX12_unitHere_8 (by decide) ?_
    exact z_ireturn dX12_unitHere_10 rfl rfl (Nat.le_refl _) (Nat.le_refl _) hv
theorem sp_X12_unitHere (hP : zPk P) (hp : pS T n I L e) (hd : 2 ≤ d) {K : Int32 → zI → zL → zP → Prop} (kk : K (nI (uH (tK T n e))) I L P) : zMi zm_X12_unitHere d [.ref 160] I L P K := by
  obtain ⟨d, rfl⟩ : ∃ e, d = e + 1 := ⟨d - 1, by omega⟩
  obtain ⟨g1, g2⟩ := pS_g hp
  have k4 := (pS_k hp).2.2.2.1
  have a40 := g2 40 (by decide) (by decide)
  have w12 := pS_w hp (i := 12) (by decide) (x := 469786323827) rfl
  have w6 := pS_w hp (i := 6) (by decide) (x := 6840691) rfl
  have w13 := pS_w hp (i := 13) (by decide) (x := 1735356005) rfl
  have w14 := pS_w hp (i := 14) (by decide) (x := 461414299507) rfl
  have w15 := pS_w hp (i := 15) (by decide) (x := 6384748) rfl
  have w16 := pS_w hp (i := 16) (by decide) (x := 109330228408174) rfl
  have a40' : (I 160 8 = 5 ∧ sSg I (I 160 6) = 40) ↔ tK T n e = 40 := a40
  unfold uH at kk
  refine g_X12_unitHere hP (by omega) ?_
  unfold v_X12_unitHere
  rw [k4, a40', w12, w6, w13, w14, w15, w16]
  refine ⟨fun q => ?_, fun q => ?_⟩
  · rw [if_neg q] at kk
    refine ⟨g1, fun q1 => ?_, fun q1 => ?_⟩
    · rw [if_neg (bP_0.mp q1)] at kk
      refine ⟨fun q2 => ?_, fun q2 => ?_⟩
      · rw [if_neg (bP_0.mp q2)] at kk
        refine ⟨fun q3 => ?_, fun q3 => ?_⟩
        · rw [if_neg (bP_0.mp q3)] at kk
          refine ⟨fun q4 => ?_, fun q4 => ?_⟩
          · rw [if_neg (bP_0.mp q4)] at kk
            refine ⟨fun q5 => ?_, fun q5 => ?_⟩
            · rw [if_neg (bP_0.mp q5)] at kk
              refine ⟨fun q6 => ?_, fun q6 => ?_⟩
              · rw [if_neg (bP_0.mp q6)] at kk
                refine ⟨fun q7 => ?_, fun q7 => ?_⟩
                · rw [if_neg (bP_0.mp q7)] at kk; exact qi kk
                · rw [if_pos (bP_n.mp q7)] at kk; exact qi kk
              · rw [if_pos (bP_n.mp q6)] at kk; exact qi kk
            · rw [if_pos (bP_n.mp q5)] at kk; exact qi kk
          · rw [if_pos (bP_n.mp q4)] at kk; exact qi kk
        · rw [if_pos (bP_n.mp q3)] at kk; exact qi kk
      · rw [if_pos (bP_n.mp q2)] at kk; exact qi kk
    · rw [if_pos (bP_n.mp q1)] at kk; exact qi kk
  · rw [if_pos q] at kk; exact qi kk
abbrev gw_X12_rankHere (d : Nat) (Q : zQt) (pc : Nat) (lv : zV) (st : List Value) (I : zI) (L : zL) (P : zP) : Prop := zW zm_X12_rankHere (zRm d 0 0) 0 0 Q pc lv st I L P 205 0 0
abbrev v_X12_rankHere (d : Nat) (Q : zQt)  (I : zI) (L : zL) (P : zP) : Prop :=
  (((bP (I 160 8 = 3 ∧ L 160 10 = 6385252)) = 0 →
    (((bP (I 160 8 = 3 ∧ L 160 10 = 28530)) = 0 →
      (I 160 8 = 5 → pSg I (I 160 6)) ∧
      ((¬ (bP (I 160 8 = 5 ∧ sSg I (I 160 6) = 60)) = 0 →
        Q (some (.int 4)) I L P 205
      ) ∧ ((bP (I 160 8 = 5 ∧ sSg I (I 160 6) = 60)) = 0 →
        ((¬ (bP (I 160 8 = 5 ∧ sSg I (I 160 6) = 62)) = 0 →
          Q (some (.int 4)) I L P 205
        ) ∧ ((bP (I 160 8 = 5 ∧ sSg I (I 160 6) = 62)) = 0 →
          (((bP (I 160 8 = 5 ∧ sSg I (I 160 6) = 61)) = 0 →
            ((¬ (bP (I 160 8 = 5 ∧ sSg I (I 160 6) = 43)) = 0 →
              Q (some (.int 5)) I L P 205
            ) ∧ ((bP (I 160 8 = 5 ∧ sSg I (I 160 6) = 43)) = 0 →
              (((bP (I 160 8 = 5 ∧ sSg I (I 160 6) = 45)) = 0 →
                ((¬ (bP (I 160 8 = 5 ∧ sSg I (I 160 6) = 42)) = 0 →
                  Q (some (.int 6)) I L P 205
                ) ∧ ((bP (I 160 8 = 5 ∧ sSg I (I 160 6) = 42)) = 0 →
                  (((bP (I 160 8 = 5 ∧ sSg I (I 160 6) = 47)) = 0 →
                    Q (some (.int 0)) I L P 205
                  ) ∧ (¬ (bP (I 160 8 = 5 ∧ sSg I (I 160 6) = 47)) = 0 →
                    Q (some (.int 6)) I L P 205
                  ))
                ))
              ) ∧ (¬ (bP (I 160 8 = 5 ∧ sSg I (I 160 6) = 45)) = 0 →
                Q (some (.int 5)) I L P 205
              ))
            ))
          ) ∧ (¬ (bP (I 160 8 = 5 ∧ sSg I (I 160 6) = 61)) = 0 →
            Q (some (.int 4)) I L P 205
          ))
        ))
      ))
    ) ∧ (¬ (bP (I 160 8 = 3 ∧ L 160 10 = 28530)) = 0 →
      Q (some (.int 1)) I L P 205
    ))
  ) ∧ (¬ (bP (I 160 8 = 3 ∧ L 160 10 = 6385252)) = 0 →
    Q (some (.int 2)) I L P 205
  ))
set_option maxRecDepth 20000 in
theorem g_X12_rankHere {d : Nat} {Q : zQt}  {I : zI} {L : zL} {P : zP} (hP : zPk P) (hd : 1 ≤ d) (hv : v_X12_rankHere d Q  I L P) : zM zm_X12_rankHere (d + 1) 0 0 [.ref 160] I L P 205 Q := by
  unfold v_X12_rankHere at hv
  refine zM_of (lv0 := [some (.ref 160)]) (by decide +kernel) (Nat.le_of_ble_eq_true rfl) rfl ?_
  refine z_aload_n dX12_rankHere_0 rfl ?_
  refine z_ldc2 (v := 6385252) dX12_rankHere_1 zj_X12_189 ?_
  refine z_callV (As := [.long 6385252]) (st := []) dX12_rankHere_4 zl_X12_270 zv_X12_isWord (by decide) rfl zn_160 zo_160 rfl rfl (Nat.le_of_ble_eq_true rfl) ⟨Nat.le_refl _, Nat.le_refl _⟩ ⟨Nat.le_refl _, Nat.le_refl _⟩ (sp_X12_isWord hP (K := fun r I' L' P' => bP (I 160 8 = 3 ∧ L 160 10 = 6385252) = r ∧ I = I' ∧ L = L' ∧ P = P') ⟨rfl, rfl, rfl, rfl⟩) (fun v1 I2 L2 P2 nx1 q2 => ?_)
  obtain ⟨rfl, r1, rfl, rfl, rfl, rfl, rfl⟩ := q2
  refine z_if_eq (tgt := 12) dX12_rankHere_7 (by decide) (fun q3 => ?_) (fun q3 => ?_)
  · have hv := hv.1 q3
    refine z_aload_n dX12_rankHere_12 rfl ?_
    refine z_ldc2 (v := 28530) dX12_rankHere_13 zj_X12_191 ?_
    refine z_callV (As := [.long 28530]) (st := []) dX12_rankHere_16 zl_X12_270 zv_X12_isWord (by decide) rfl zn_160 zo_160 rfl rfl (Nat.le_of_ble_eq_true rfl) ⟨Nat.le_refl _, Nat.le_refl _⟩ ⟨Nat.le_refl _, Nat.le_refl _⟩ (sp_X12_isWord hP (K := fun r I' L' P' => bP (I 160 8 = 3 ∧ L 160 10 = 28530) = r ∧ I = I' ∧ L = L' ∧ P = P') ⟨rfl, rfl, rfl, rfl⟩) (fun v1 I2 L2 P2 nx1 q5 => ?_)
    obtain ⟨rfl, r4, rfl, rfl, rfl, rfl, rfl⟩ := q5
    refine z_if_eq (tgt := 24) dX12_rankHere_19 (by decide) (fun q6 => ?_) (fun q6 => ?_)
    · have hv := hv.1 q6
      refine z_aload_n dX12_rankHere_24 rfl ?_
      refine z_bipush (v := 60) dX12_rankHere_25 (by decide) ?_
      obtain ⟨h7, hv⟩ := hv
      refine z_callV (As := [.int 60]) (st := []) dX12_rankHere_27 zl_X12_291 zv_X12_stands (by decide) rfl zn_160 zo_160 rfl rfl (Nat.le_of_ble_eq_true rfl) ⟨Nat.le_refl _, Nat.le_refl _⟩ ⟨Nat.le_refl _, Nat.le_refl _⟩ (sp_X12_stands hP h7 (by omega) (K := fun r I' L' P' => bP (I 160 8 = 5 ∧ sSg I (I 160 6) = 60) = r ∧ I = I' ∧ L = L' ∧ P = P') ⟨rfl, rfl, rfl, rfl⟩) (fun v1 I2 L2 P2 nx1 q9 => ?_)
      obtain ⟨rfl, r8, rfl, rfl, rfl, rfl, rfl⟩ := q9
      refine z_if_ne (tgt := 51) dX12_rankHere_30 (by decide) (fun q10 => ?_) (fun q10 => ?_)
      · have hv := hv.1 q10
        refine z_iconst (v := 4) dX12_rankHere_51 (by decide) ?_
        exact z_ireturn dX12_rankHere_52 rfl rfl (Nat.le_refl _) (Nat.le_refl _) hv
      · have hv := hv.2 q10
        refine z_aload_n dX12_rankHere_33 rfl ?_
        refine z_bipush (v := 62) dX12_rankHere_34 (by decide) ?_
        refine z_callV (As := [.int 62]) (st := []) dX12_rankHere_36 zl_X12_291 zv_X12_stands (by decide) rfl zn_160 zo_160 rfl rfl (Nat.le_of_ble_eq_true rfl) ⟨Nat.le_refl _, Nat.le_refl _⟩ ⟨Nat.le_refl _, Nat.le_refl _⟩ (sp_X12_stands hP h7 (by omega) (K := fun r I' L' P' => bP (I 160 8 = 5 ∧ sSg I (I 160 6) = 62) = r ∧ I = I' ∧ L = L' ∧ P = P') ⟨rfl, rfl, rfl, rfl⟩) (fun v1 I2 L2 P2 nx1 q12 => ?_)
        obtain ⟨rfl, r11, rfl, rfl, rfl, rfl, rfl⟩ := q12
        refine z_if_ne (tgt := 51) dX12_rankHere_39 (by decide) (fun q13 => ?_) (fun q13 => ?_)
        · have hv := hv.1 q13
          refine z_iconst (v := 4) dX12_rankHere_51 (by decide) ?_
          exact z_ireturn dX12_rankHere_52 rfl rfl (Nat.le_refl _) (Nat.le_refl _) hv
        · have hv := hv.2 q13
          refine z_aload_n dX12_rankHere_42 rfl ?_
          refine z_bipush (v := 61) dX12_rankHere_43 (by decide) ?_
          refine z_callV (As := [.int 61]) (st := []) dX12_rankHere_45 zl_X12_291 zv_X12_stands (by decide) rfl zn_160 zo_160 rfl rfl (Nat.le_of_ble_eq_true rfl) ⟨Nat.le_refl _, Nat.le_refl _⟩ ⟨Nat.le_refl _, Nat.le_refl _⟩ (sp_X12_stands hP h7 (by omega) (K := fun r I' L' P' => bP (I 160 8 = 5 ∧ sSg I (I 160 6) = 61) = r ∧ I = I' ∧ L = L' ∧ P = P') ⟨rfl, rfl, rfl, rfl⟩) (fun v1 I2 L2 P2 nx1 q15 => ?_)
          obtain ⟨rfl, r14, rfl, rfl, rfl, rfl, rfl⟩ := q15
          refine z_if_eq (tgt := 53) dX12_rankHere_48 (by decide) (fun q16 => ?_) (fun q16 => ?_)
          · have hv := hv.1 q16
            refine z_aload_n dX12_rankHere_53 rfl ?_
            refine z_bipush (v := 43) dX12_rankHere_54 (by decide) ?_
            refine z_callV (As := [.int 43]) (st := []) dX12_rankHere_56 zl_X12_291 zv_X12_stands (by decide) rfl zn_160 zo_160 rfl rfl (Nat.le_of_ble_eq_true rfl) ⟨Nat.le_refl _, Nat.le_refl _⟩ ⟨Nat.le_refl _, Nat.le_refl _⟩ (sp_X12_stands hP h7 (by omega) (K := fun r I' L' P' => bP (I 160 8 = 5 ∧ sSg I (I 160 6) = 43) = r ∧ I = I' ∧ L = L' ∧ P = P') ⟨rfl, rfl, rfl, rfl⟩) (fun v1 I2 L2 P2 nx1 q18 => ?_)
            obtain ⟨rfl, r17, rfl, rfl, rfl, rfl, rfl⟩ := q18
            refine z_if_ne (tgt := 71) dX12_rankHere_59 (by decide) (fun q19 => ?_) (fun q19 => ?_)
            · have hv := hv.1 q19
              refine z_iconst (v := 5) dX12_rankHere_71 (by decide) ?_
              exact z_ireturn dX12_rankHere_72 rfl rfl (Nat.le_refl _) (Nat.le_refl _) hv
            · have hv := hv.2 q19
              refine z_aload_n dX12_rankHere_62 rfl ?_
              refine z_bipush (v := 45) dX12_rankHere_63 (by decide) ?_
              refine z_callV (As := [.int 45]) (st := []) dX12_rankHere_65 zl_X12_291 zv_X12_stands (by decide) rfl zn_160 zo_160 rfl rfl (Nat.le_of_ble_eq_true rfl) ⟨Nat.le_refl _, Nat.le_refl _⟩ ⟨Nat.le_refl _, Nat.le_refl _⟩ (sp_X12_stands hP h7 (by omega) (K := fun r I' L' P' => bP (I 160 8 = 5 ∧ sSg I (I 160 6) = 45) = r ∧ I = I' ∧ L = L' ∧ P = P') ⟨rfl, rfl, rfl, rfl⟩) (fun v1 I2 L2 P2 nx1 q21 => ?_)
              obtain ⟨rfl, r20, rfl, rfl, rfl, rfl, rfl⟩ := q21
              refine z_if_eq (tgt := 73) dX12_rankHere_68 (by decide) (fun q22 => ?_) (fun q22 => ?_)
              · have hv := hv.1 q22
                refine z_aload_n dX12_rankHere_73 rfl ?_
                refine z_bipush (v := 42) dX12_rankHere_74 (by decide) ?_
                refine z_callV (As := [.int 42]) (st := []) dX12_rankHere_76 zl_X12_291 zv_X12_stands (by decide) rfl zn_160 zo_160 rfl rfl (Nat.le_of_ble_eq_true rfl) ⟨Nat.le_refl _, Nat.le_refl _⟩ ⟨Nat.le_refl _, Nat.le_refl _⟩ (sp_X12_stands hP h7 (by omega) (K := fun r I' L' P' => bP (I 160 8 = 5 ∧ sSg I (I 160 6) = 42) = r ∧ I = I' ∧ L = L' ∧ P = P') ⟨rfl, rfl, rfl, rfl⟩) (fun v1 I2 L2 P2 nx1 q24 => ?_)
                obtain ⟨rfl, r23, rfl, rfl, rfl, rfl, rfl⟩ := q24
                refine z_if_ne (tgt := 91) dX12_rankHere_79 (by decide) (fun q25 => ?_) (fun q25 => ?_)
                · have hv := hv.1 q25
                  refine z_bipush (v := 6) dX12_rankHere_91 (by decide) ?_
                  refine z_goto (tgt := 97) dX12_rankHere_93 (by decide) ?_
                  exact z_ireturn dX12_rankHere_97 rfl rfl (Nat.le_refl _) (Nat.le_refl _) hv
                · have hv := hv.2 q25
                  refine z_aload_n dX12_rankHere_82 rfl ?_
                  refine z_bipush (v := 47) dX12_rankHere_83 (by decide) ?_
                  refine z_callV (As := [.int 47]) (st := []) dX12_rankHere_85 zl_X12_291 zv_X12_stands (by decide) rfl zn_160 zo_160 rfl rfl (Nat.le_of_ble_eq_true rfl) ⟨Nat.le_refl _, Nat.le_refl _⟩ ⟨Nat.le_refl _, Nat.le_refl _⟩ (sp_X12_stands hP h7 (by omega) (K := fun r I' L' P' => bP (I 160 8 = 5 ∧ sSg I (I 160 6) = 47) = r ∧ I = I' ∧ L = L' ∧ P = P') ⟨rfl, rfl, rfl, rfl⟩) (fun v1 I2 L2 P2 nx1 q27 => ?_)
                  obtain ⟨rfl, r26, rfl, rfl, rfl, rfl, rfl⟩ := q27
                  refine z_if_eq (tgt := 96) dX12_rankHere_88 (by decide) (fun q28 => ?_) (fun q28 => ?_)
                  · have hv := hv.1 q28
                    refine z_iconst (v := 0) dX12_rankHere_96 (by decide) ?_
                    exact z_ireturn dX12_rankHere_97 rfl rfl (Nat.le_refl _) (Nat.le_refl _) hv
                  · have hv := hv.2 q28
                    refine z_bipush (v := 6) dX12_rankHere_91 (by decide) ?_
                    refine z_goto (tgt := 97) dX12_rankHere_93 (by decide) ?_
                    exact z_ireturn dX12_rankHere_97 rfl rfl (Nat.le_refl _) (Nat.le_refl _) hv
              · have hv := hv.2 q22
                refine z_iconst (v := 5) dX12_rankHere_71 (by decide) ?_
                exact z_ireturn dX12_rankHere_72 rfl rfl (Nat.le_refl _) (Nat.le_refl _) hv
          · have hv := hv.2 q16
            refine z_iconst (v := 4) dX12_rankHere_51 (by decide) ?_
            exact z_ireturn dX12_rankHere_52 rfl rfl (Nat.le_refl _) (Nat.le_refl _) hv
    · have hv := hv.2 q6
      refine z_iconst (v := 1) dX12_rankHere_22 (by decide) ?_
      exact z_ireturn dX12_rankHere_23 rfl rfl (Nat.le_refl _) (Nat.le_refl _) hv
  · have hv := hv.2 q3
    refine z_iconst (v := 2) dX12_rankHere_10 (by decide) ?_
    exact z_ireturn dX12_rankHere_11 rfl rfl (Nat.le_refl _) (Nat.le_refl _) hv
theorem sp_X12_rankHere (hP : zPk P) (hp : pS T n I L e) (hd : 2 ≤ d) {K : Int32 → zI → zL → zP → Prop} (kk : K (nI (rkH (tK T n e))) I L P) : zMi zm_X12_rankHere d [.ref 160] I L P K := by
  obtain ⟨d, rfl⟩ : ∃ e, d = e + 1 := ⟨d - 1, by omega⟩
  obtain ⟨g1, g2⟩ := pS_g hp
  have a60 : (I 160 8 = 5 ∧ sSg I (I 160 6) = 60) ↔ tK T n e = 60 := g2 60 (by decide) (by decide)
  have a62 : (I 160 8 = 5 ∧ sSg I (I 160 6) = 62) ↔ tK T n e = 62 := g2 62 (by decide) (by decide)
  have a61 : (I 160 8 = 5 ∧ sSg I (I 160 6) = 61) ↔ tK T n e = 61 := g2 61 (by decide) (by decide)
  have a43 : (I 160 8 = 5 ∧ sSg I (I 160 6) = 43) ↔ tK T n e = 43 := g2 43 (by decide) (by decide)
  have a45 : (I 160 8 = 5 ∧ sSg I (I 160 6) = 45) ↔ tK T n e = 45 := g2 45 (by decide) (by decide)
  have a42 : (I 160 8 = 5 ∧ sSg I (I 160 6) = 42) ↔ tK T n e = 42 := g2 42 (by decide) (by decide)
  have a47 : (I 160 8 = 5 ∧ sSg I (I 160 6) = 47) ↔ tK T n e = 47 := g2 47 (by decide) (by decide)
  have w10 := pS_w hp (i := 10) (by decide) (x := 6385252) rfl
  have w9 := pS_w hp (i := 9) (by decide) (x := 28530) rfl
  refine g_X12_rankHere hP (by omega) ?_
  unfold v_X12_rankHere
  rw [a60, a62, a61, a43, a45, a42, a47, w10, w9]
  have ans : ∀ v, nI (rkH (tK T n e)) = v → K v I L P := fun v h => by rw [← h]; exact kk
  refine ⟨fun q => ⟨fun q1 => ⟨g1, fun q2 => qi (ans 4 ?_), fun q2 => ⟨fun q3 => qi (ans 4 ?_), fun q3 => ⟨fun q4 => ⟨fun q5 => qi (ans 5 ?_), fun q5 => ⟨fun q6 => ⟨fun q7 => qi (ans 6 ?_), fun q7 => ⟨fun q8 => qi (ans 0 ?_), fun q8 => qi (ans 6 ?_)⟩⟩, fun q6 => qi (ans 5 ?_)⟩⟩, fun q4 => qi (ans 4 ?_)⟩⟩⟩, fun q1 => qi (ans 1 ?_)⟩, fun q => qi (ans 2 ?_)⟩
  · rw [bP_n.mp q2]; rfl
  · rw [bP_n.mp q3]; rfl
  · rw [bP_n.mp q5]; rfl
  · rw [bP_n.mp q7]; rfl
  · rw [bP_0] at q q1 q2 q3 q4 q5 q6 q7 q8
    unfold rkH
    rw [if_neg q, if_neg q1, if_neg (by omega), if_neg (by omega), if_neg (by omega)]
    rfl
  · rw [bP_n.mp q8]; rfl
  · rw [bP_n.mp q6]; rfl
  · rw [bP_n.mp q4]; rfl
  · rw [bP_n.mp q1]; rfl
  · rw [bP_n.mp q]; rfl
end UH
abbrev gw_X12_emit (d : Nat) (Q : zQt) (pc : Nat) (lv : zV) (st : List Value) (I : zI) (L : zL) (P : zP) : Prop := zW zm_X12_emit (zRm d 0 0) 0 0 Q pc lv st I L P 205 0 0
abbrev v_X12_emit (d : Nat) (Q : zQt) (p1 : Int32) (p2 : Int32) (I : zI) (L : zL) (P : zP) : Prop :=
  vp_in (I 160 32) 2100 ∧
  ∀ I3 : zI, I3 = zuI I 175 (I 160 32).toNatClampNeg p1 →
  vp_in (I3 160 32) 2100 ∧
  ∀ I6 : zI, I6 = zuI I3 176 (I3 160 32).toNatClampNeg p2 →
  ∀ I7 : zI, I7 = zuI I6 160 32 ((I6 160 32) + 1) →
  Q none I7 L P 205
set_option maxRecDepth 20000 in
theorem g_X12_emit {d : Nat} {Q : zQt} {p1 : Int32} {p2 : Int32} {I : zI} {L : zL} {P : zP} (hP : zPk P) (hv : v_X12_emit d Q p1 p2 I L P) : zM zm_X12_emit d 0 0 [.ref 160, .int p1, .int p2] I L P 205 Q := by
  unfold v_X12_emit at hv
  refine zM_of (lv0 := [some (.ref 160), some (.int p1), some (.int p2)]) (by decide +kernel) (Nat.le_of_ble_eq_true rfl) rfl ?_
  refine z_aload_n dX12_emit_0 rfl ?_
  refine z_getP dX12_emit_1 zf_X12_59 zn_160 zo_160 (fun _ _ _ _ _ => rfl) (hP 160 23 175 zp_160_23) ?_
  refine z_aload_n dX12_emit_4 rfl ?_
  refine z_getI dX12_emit_5 zf_X12_246 zn_160 zo_160 (fun _ _ _ _ _ => rfl) ?_
  refine z_iload_n dX12_emit_8 rfl ?_
  obtain ⟨h1, hv⟩ := hv
  refine z_iastore dX12_emit_9 zn_175 zh_175 h1 (z_nmI (fun I3 e2 => ?_))
  have hv := hv I3 e2
  refine z_aload_n dX12_emit_10 rfl ?_
  refine z_getP dX12_emit_11 zf_X12_62 zn_160 zo_160 (fun _ _ _ _ _ => rfl) (hP 160 24 176 zp_160_24) ?_
  refine z_aload_n dX12_emit_14 rfl ?_
  refine z_getI dX12_emit_15 zf_X12_246 zn_160 zo_160 (fun _ _ _ _ _ => rfl) ?_
  refine z_iload_n dX12_emit_18 rfl ?_
  obtain ⟨h4, hv⟩ := hv
  refine z_iastore dX12_emit_19 zn_176 zh_176 h4 (z_nmI (fun I6 e5 => ?_))
  have hv := hv I6 e5
  refine z_aload_n dX12_emit_20 rfl ?_
  refine z_dup dX12_emit_21 rfl ?_
  refine z_getI dX12_emit_22 zf_X12_246 zn_160 zo_160 (fun _ _ _ _ _ => rfl) ?_
  refine z_iconst (v := 1) dX12_emit_25 (by decide) ?_
  refine z_iadd dX12_emit_26 ?_
  refine z_putI dX12_emit_27 zf_X12_246 zn_160 zo_160 (Or.inl rfl) (fun _ _ _ _ _ => rfl) rfl rfl (z_nmI (fun I7 e8 => ?_))
  have hv := hv I7 e8
  exact z_return dX12_emit_30 rfl (Nat.le_refl _) (Nat.le_refl _) hv
theorem sp_X12_emit {d : Nat} {I : zI} {L : zL} {P : zP} {c v : Int32} {m : Nat} (hP : zPk P) (hm : m < 2100) (h : I 160 32 = nI m) {K : zI → zL → zP → Prop} (kk : K (zuI (zuI (zuI I 175 m c) 176 m v) 160 32 (nI (m + 1))) L P) : zMv zm_X12_emit d [.ref 160, .int c, .int v] I L P K := by
  refine g_X12_emit hP ⟨by rw [h]; exact nx_in hm (by decide), fun I1 e1 => ?_⟩
  rw [h, nI_cl (by omega)] at e1
  subst e1
  rw [zuI_ne (by decide), h]
  refine ⟨nx_in hm (by decide), fun I2 e2 I3 e3 => qv ?_⟩
  rw [nI_cl (by omega)] at e2
  subst e2
  rw [zuI_ne (by decide), zuI_ne (by decide), h, nI_1] at e3
  subst e3
  exact kk
abbrev gw_X12_pushE (d : Nat) (Q : zQt) (pc : Nat) (lv : zV) (st : List Value) (I : zI) (L : zL) (P : zP) : Prop := zW zm_X12_pushE (zRm d 0 0) 0 0 Q pc lv st I L P 205 0 0
abbrev v_X12_pushE (d : Nat) (Q : zQt) (p1 : Int32) (p2 : Int32) (p3 : Int32) (I : zI) (L : zL) (P : zP) : Prop :=
  vp_in (I 160 34) 90 ∧
  ∀ I3 : zI, I3 = zuI I 177 (I 160 34).toNatClampNeg p1 →
  vp_in (I3 160 34) 90 ∧
  ∀ I6 : zI, I6 = zuI I3 178 (I3 160 34).toNatClampNeg p2 →
  vp_in (I6 160 34) 90 ∧
  ∀ I9 : zI, I9 = zuI I6 179 (I6 160 34).toNatClampNeg p3 →
  ∀ I10 : zI, I10 = zuI I9 160 34 ((I9 160 34) + 1) →
  Q none I10 L P 205
set_option maxRecDepth 20000 in
theorem g_X12_pushE {d : Nat} {Q : zQt} {p1 : Int32} {p2 : Int32} {p3 : Int32} {I : zI} {L : zL} {P : zP} (hP : zPk P) (hv : v_X12_pushE d Q p1 p2 p3 I L P) : zM zm_X12_pushE d 0 0 [.ref 160, .int p1, .int p2, .int p3] I L P 205 Q := by
  unfold v_X12_pushE at hv
  refine zM_of (lv0 := [some (.ref 160), some (.int p1), some (.int p2), some (.int p3)]) (by decide +kernel) (Nat.le_of_ble_eq_true rfl) rfl ?_
  refine z_aload_n dX12_pushE_0 rfl ?_
  refine z_getP dX12_pushE_1 zf_X12_65 zn_160 zo_160 (fun _ _ _ _ _ => rfl) (hP 160 25 177 zp_160_25) ?_
  refine z_aload_n dX12_pushE_4 rfl ?_
  refine z_getI dX12_pushE_5 zf_X12_311 zn_160 zo_160 (fun _ _ _ _ _ => rfl) ?_
  refine z_iload_n dX12_pushE_8 rfl ?_
  obtain ⟨h1, hv⟩ := hv
  refine z_iastore dX12_pushE_9 zn_177 zh_177 h1 (z_nmI (fun I3 e2 => ?_))
  have hv := hv I3 e2
  refine z_aload_n dX12_pushE_10 rfl ?_
  refine z_getP dX12_pushE_11 zf_X12_68 zn_160 zo_160 (fun _ _ _ _ _ => rfl) (hP 160 26 178 zp_160_26) ?_
  refine z_aload_n dX12_pushE_14 rfl ?_
  refine z_getI dX12_pushE_15 zf_X12_311 zn_160 zo_160 (fun _ _ _ _ _ => rfl) ?_
  refine z_iload_n dX12_pushE_18 rfl ?_
  obtain ⟨h4, hv⟩ := hv
  refine z_iastore dX12_pushE_19 zn_178 zh_178 h4 (z_nmI (fun I6 e5 => ?_))
  have hv := hv I6 e5
  refine z_aload_n dX12_pushE_20 rfl ?_
  refine z_getP dX12_pushE_21 zf_X12_71 zn_160 zo_160 (fun _ _ _ _ _ => rfl) (hP 160 27 179 zp_160_27) ?_
  refine z_aload_n dX12_pushE_24 rfl ?_
  refine z_getI dX12_pushE_25 zf_X12_311 zn_160 zo_160 (fun _ _ _ _ _ => rfl) ?_
  refine z_iload_n dX12_pushE_28 rfl ?_
  obtain ⟨h7, hv⟩ := hv
  refine z_iastore dX12_pushE_29 zn_179 zh_179 h7 (z_nmI (fun I9 e8 => ?_))
  have hv := hv I9 e8
  refine z_aload_n dX12_pushE_30 rfl ?_
  refine z_dup dX12_pushE_31 rfl ?_
  refine z_getI dX12_pushE_32 zf_X12_311 zn_160 zo_160 (fun _ _ _ _ _ => rfl) ?_
  refine z_iconst (v := 1) dX12_pushE_35 (by decide) ?_
  refine z_iadd dX12_pushE_36 ?_
  refine z_putI dX12_pushE_37 zf_X12_311 zn_160 zo_160 (Or.inl rfl) (fun _ _ _ _ _ => rfl) rfl rfl (z_nmI (fun I10 e11 => ?_))
  have hv := hv I10 e11
  exact z_return dX12_pushE_40 rfl (Nat.le_refl _) (Nat.le_refl _) hv
theorem sp_X12_pushE {d : Nat} {I : zI} {L : zL} {P : zP} {a b c : Int32} {m : Nat} (hP : zPk P) (hm : m < 90) (h : I 160 34 = nI m) {K : zI → zL → zP → Prop} (kk : K (zuI (zuI (zuI (zuI I 177 m a) 178 m b) 179 m c) 160 34 (nI (m + 1))) L P) : zMv zm_X12_pushE d [.ref 160, .int a, .int b, .int c] I L P K := by
  refine g_X12_pushE hP ⟨by rw [h]; exact nx_in hm (by decide), fun I1 e1 => ?_⟩
  rw [h, nI_cl (by omega)] at e1
  subst e1
  rw [zuI_ne (by decide), h]
  refine ⟨nx_in hm (by decide), fun I2 e2 => ?_⟩
  rw [nI_cl (by omega)] at e2
  subst e2
  rw [zuI_ne (by decide), zuI_ne (by decide), h]
  refine ⟨nx_in hm (by decide), fun I3 e3 I4 e4 => qv ?_⟩
  rw [nI_cl (by omega)] at e3
  subst e3
  rw [zuI_ne (by decide), zuI_ne (by decide), zuI_ne (by decide), h, nI_1] at e4
  subst e4
  exact kk
