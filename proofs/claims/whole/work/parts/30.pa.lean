/-! ===== the model: signs and words ===== -/
/-- the sign at a place; 0 behind the end -/
def sSg (I : zI) (x : Int32) : Int32 := if I 160 3 ≤ x then 0 else (I 162 x.toNatClampNeg &&& 255 : Int32)
def pSg (I : zI) (x : Int32) : Prop := ¬ I 160 3 ≤ x → vp_in x 1600
abbrev gw_X12_sign (d : Nat) (Q : zQt) (pc : Nat) (lv : zV) (st : List Value) (I : zI) (L : zL) (P : zP) : Prop := zW zm_X12_sign (zRm d 0 0) 0 0 Q pc lv st I L P 205 0 0
abbrev v_X12_sign (d : Nat) (Q : zQt) (p1 : Int32) (I : zI) (L : zL) (P : zP) : Prop :=
  (((I 160 3) ≤ p1 →
    Q (some (.int 0)) I L P 205
  ) ∧ (¬ (I 160 3) ≤ p1 →
    vp_in p1 1600 ∧
    Q (some (.int ((I 162 p1.toNatClampNeg) &&& 255 : Int32))) I L P 205
  ))
set_option maxRecDepth 20000 in
theorem g_X12_sign {d : Nat} {Q : zQt} {p1 : Int32} {I : zI} {L : zL} {P : zP} (hP : zPk P) (hv : v_X12_sign d Q p1 I L P) : zM zm_X12_sign d 0 0 [.ref 160, .int p1] I L P 205 Q := by
  unfold v_X12_sign at hv
  refine zM_of (lv0 := [some (.ref 160), some (.int p1)]) (by decide +kernel) (Nat.le_of_ble_eq_true rfl) rfl ?_
  refine z_iload_n dX12_sign_0 rfl ?_
  refine z_aload_n dX12_sign_1 rfl ?_
  refine z_getI dX12_sign_2 zf_X12_155 zn_160 zo_160 (fun _ _ _ _ _ => rfl) ?_
  refine z_icmp_ge (tgt := 21) dX12_sign_5 (by decide) (fun q1 => ?_) (fun q1 => ?_)
  · have hv := hv.1 q1
    refine z_iconst (v := 0) dX12_sign_21 (by decide) ?_
    exact z_ireturn dX12_sign_22 rfl rfl (Nat.le_refl _) (Nat.le_refl _) hv
  · have hv := hv.2 q1
    refine z_aload_n dX12_sign_8 rfl ?_
    refine z_getP dX12_sign_9 zf_X12_13 zn_160 zo_160 (fun _ _ _ _ _ => rfl) (hP 160 1 162 zp_160_1) ?_
    refine z_iload_n dX12_sign_12 rfl ?_
    obtain ⟨h2, hv⟩ := hv
    refine z_baload dX12_sign_13 zn_162 zh_162 h2 ?_
    refine z_sipush (v := 255) dX12_sign_14 (by decide) ?_
    refine z_iand dX12_sign_17 ?_
    refine z_goto (tgt := 22) dX12_sign_18 (by decide) ?_
    exact z_ireturn dX12_sign_22 rfl rfl (Nat.le_refl _) (Nat.le_refl _) hv
theorem sp_X12_sign {d : Nat} {I : zI} {L : zL} {P : zP} {x : Int32} (hP : zPk P) (h : pSg I x) {K : Int32 → zI → zL → zP → Prop} (k : K (sSg I x) I L P) : zMi zm_X12_sign d [.ref 160, .int x] I L P K := by
  refine g_X12_sign hP ⟨fun q => qi ?_, fun q => ⟨h q, qi ?_⟩⟩
  · unfold sSg at k; rwa [if_pos q] at k
  · unfold sSg at k; rwa [if_neg q] at k
def isLt (x : Int32) : Prop := ¬ x < 97 ∧ ¬ 122 < x
def isDg (x : Int32) : Prop := ¬ x < 48 ∧ ¬ 57 < x
abbrev gw_X12_isLetter (d : Nat) (Q : zQt) (pc : Nat) (lv : zV) (st : List Value) (I : zI) (L : zL) (P : zP) : Prop := zW zm_X12_isLetter (zRm d 0 0) 0 0 Q pc lv st I L P 205 0 0
abbrev v_X12_isLetter (d : Nat) (Q : zQt) (p1 : Int32) (I : zI) (L : zL) (P : zP) : Prop :=
  ((p1 < 97 →
    Q (some (.int 0)) I L P 205
  ) ∧ (¬ p1 < 97 →
    ((122 < p1 →
      Q (some (.int 0)) I L P 205
    ) ∧ (¬ 122 < p1 →
      Q (some (.int 1)) I L P 205
    ))
  ))
set_option maxRecDepth 20000 in
theorem g_X12_isLetter {d : Nat} {Q : zQt} {p1 : Int32} {I : zI} {L : zL} {P : zP} (hP : zPk P) (hv : v_X12_isLetter d Q p1 I L P) : zM zm_X12_isLetter d 0 0 [.int p1] I L P 205 Q := by
  unfold v_X12_isLetter at hv
  refine zM_of (lv0 := [some (.int p1)]) (by decide +kernel) (Nat.le_of_ble_eq_true rfl) rfl ?_
  refine z_iload_n dX12_isLetter_0 rfl ?_
  refine z_bipush (v := 97) dX12_isLetter_1 (by decide) ?_
  refine z_icmp_lt (tgt := 16) dX12_isLetter_3 (by decide) (fun q1 => ?_) (fun q1 => ?_)
  · have hv := hv.1 q1
    refine z_iconst (v := 0) dX12_isLetter_16 (by decide) ?_
    exact z_ireturn dX12_isLetter_17 rfl (by decide) (Nat.le_refl _) (Nat.le_refl _) hv
  · have hv := hv.2 q1
    refine z_iload_n dX12_isLetter_6 rfl ?_
    refine z_bipush (v := 122) dX12_isLetter_7 (by decide) ?_
    refine z_icmp_gt (tgt := 16) dX12_isLetter_9 (by decide) (fun q2 => ?_) (fun q2 => ?_)
    · have hv := hv.1 q2
      refine z_iconst (v := 0) dX12_isLetter_16 (by decide) ?_
      exact z_ireturn dX12_isLetter_17 rfl (by decide) (Nat.le_refl _) (Nat.le_refl _) hv
    · have hv := hv.2 q2
      refine z_iconst (v := 1) dX12_isLetter_12 (by decide) ?_
      refine z_goto (tgt := 17) dX12_isLetter_13 (by decide) ?_
      exact z_ireturn dX12_isLetter_17 rfl (by decide) (Nat.le_refl _) (Nat.le_refl _) hv
theorem sp_X12_isLetter {d : Nat} {I : zI} {L : zL} {P : zP} {x : Int32} (hP : zPk P) {K : Int32 → zI → zL → zP → Prop} (k : K (bP (isLt x)) I L P) : zMi zm_X12_isLetter d [.int x] I L P K := by
  refine g_X12_isLetter hP ⟨fun q => qi ?_, fun q => ⟨fun q2 => qi ?_, fun q2 => qi ?_⟩⟩
  · rwa [bP_f (fun h => h.1 q)] at k
  · rwa [bP_f (fun h => h.2 q2)] at k
  · rwa [bP_t ⟨q, q2⟩] at k
abbrev gw_X12_isDigit (d : Nat) (Q : zQt) (pc : Nat) (lv : zV) (st : List Value) (I : zI) (L : zL) (P : zP) : Prop := zW zm_X12_isDigit (zRm d 0 0) 0 0 Q pc lv st I L P 205 0 0
abbrev v_X12_isDigit (d : Nat) (Q : zQt) (p1 : Int32) (I : zI) (L : zL) (P : zP) : Prop :=
  ((p1 < 48 →
    Q (some (.int 0)) I L P 205
  ) ∧ (¬ p1 < 48 →
    ((57 < p1 →
      Q (some (.int 0)) I L P 205
    ) ∧ (¬ 57 < p1 →
      Q (some (.int 1)) I L P 205
    ))
  ))
set_option maxRecDepth 20000 in
theorem g_X12_isDigit {d : Nat} {Q : zQt} {p1 : Int32} {I : zI} {L : zL} {P : zP} (hP : zPk P) (hv : v_X12_isDigit d Q p1 I L P) : zM zm_X12_isDigit d 0 0 [.int p1] I L P 205 Q := by
  unfold v_X12_isDigit at hv
  refine zM_of (lv0 := [some (.int p1)]) (by decide +kernel) (Nat.le_of_ble_eq_true rfl) rfl ?_
  refine z_iload_n dX12_isDigit_0 rfl ?_
  refine z_bipush (v := 48) dX12_isDigit_1 (by decide) ?_
  refine z_icmp_lt (tgt := 16) dX12_isDigit_3 (by decide) (fun q1 => ?_) (fun q1 => ?_)
  · have hv := hv.1 q1
    refine z_iconst (v := 0) dX12_isDigit_16 (by decide) ?_
    exact z_ireturn dX12_isDigit_17 rfl (by decide) (Nat.le_refl _) (Nat.le_refl _) hv
  · have hv := hv.2 q1
    refine z_iload_n dX12_isDigit_6 rfl ?_
    refine z_bipush (v := 57) dX12_isDigit_7 (by decide) ?_
    refine z_icmp_gt (tgt := 16) dX12_isDigit_9 (by decide) (fun q2 => ?_) (fun q2 => ?_)
    · have hv := hv.1 q2
      refine z_iconst (v := 0) dX12_isDigit_16 (by decide) ?_
      exact z_ireturn dX12_isDigit_17 rfl (by decide) (Nat.le_refl _) (Nat.le_refl _) hv
    · have hv := hv.2 q2
      refine z_iconst (v := 1) dX12_isDigit_12 (by decide) ?_
      refine z_goto (tgt := 17) dX12_isDigit_13 (by decide) ?_
      exact z_ireturn dX12_isDigit_17 rfl (by decide) (Nat.le_refl _) (Nat.le_refl _) hv
theorem sp_X12_isDigit {d : Nat} {I : zI} {L : zL} {P : zP} {x : Int32} (hP : zPk P) {K : Int32 → zI → zL → zP → Prop} (k : K (bP (isDg x)) I L P) : zMi zm_X12_isDigit d [.int x] I L P K := by
  refine g_X12_isDigit hP ⟨fun q => qi ?_, fun q => ⟨fun q2 => qi ?_, fun q2 => qi ?_⟩⟩
  · rwa [bP_f (fun h => h.1 q)] at k
  · rwa [bP_f (fun h => h.2 q2)] at k
  · rwa [bP_t ⟨q, q2⟩] at k
abbrev sgL : List Int32 := [59, 40, 41, 60, 62, 61, 43, 45, 42, 47]
abbrev gw_X12_isSign (d : Nat) (Q : zQt) (pc : Nat) (lv : zV) (st : List Value) (I : zI) (L : zL) (P : zP) : Prop := zW zm_X12_isSign (zRm d 0 0) 0 0 Q pc lv st I L P 205 0 0
abbrev v_X12_isSign (d : Nat) (Q : zQt) (p1 : Int32) (I : zI) (L : zL) (P : zP) : Prop :=
  ((p1 = 59 →
    Q (some (.int 1)) I L P 205
  ) ∧ (¬ p1 = 59 →
    ((p1 = 40 →
      Q (some (.int 1)) I L P 205
    ) ∧ (¬ p1 = 40 →
      ((p1 = 41 →
        Q (some (.int 1)) I L P 205
      ) ∧ (¬ p1 = 41 →
        ((p1 = 60 →
          Q (some (.int 1)) I L P 205
        ) ∧ (¬ p1 = 60 →
          ((p1 = 62 →
            Q (some (.int 1)) I L P 205
          ) ∧ (¬ p1 = 62 →
            ((p1 = 61 →
              Q (some (.int 1)) I L P 205
            ) ∧ (¬ p1 = 61 →
              ((p1 = 43 →
                Q (some (.int 1)) I L P 205
              ) ∧ (¬ p1 = 43 →
                ((p1 = 45 →
                  Q (some (.int 1)) I L P 205
                ) ∧ (¬ p1 = 45 →
                  ((p1 = 42 →
                    Q (some (.int 1)) I L P 205
                  ) ∧ (¬ p1 = 42 →
                    ((¬ p1 = 47 →
                      Q (some (.int 0)) I L P 205
                    ) ∧ (p1 = 47 →
                      Q (some (.int 1)) I L P 205
                    ))
                  ))
                ))
              ))
            ))
          ))
        ))
      ))
    ))
  ))
set_option maxRecDepth 20000 in
theorem g_X12_isSign {d : Nat} {Q : zQt} {p1 : Int32} {I : zI} {L : zL} {P : zP} (hP : zPk P) (hv : v_X12_isSign d Q p1 I L P) : zM zm_X12_isSign d 0 0 [.int p1] I L P 205 Q := by
  unfold v_X12_isSign at hv
  refine zM_of (lv0 := [some (.int p1)]) (by decide +kernel) (Nat.le_of_ble_eq_true rfl) rfl ?_
  refine z_iload_n dX12_isSign_0 rfl ?_
  refine z_bipush (v := 59) dX12_isSign_1 (by decide) ?_
  refine z_icmp_eq (tgt := 60) dX12_isSign_3 (by decide) (fun q1 => ?_) (fun q1 => ?_)
  · have hv := hv.1 q1
    refine z_iconst (v := 1) dX12_isSign_60 (by decide) ?_
    refine z_goto (tgt := 65) dX12_isSign_61 (by decide) ?_
    exact z_ireturn dX12_isSign_65 rfl (by decide) (Nat.le_refl _) (Nat.le_refl _) hv
  · have hv := hv.2 q1
    refine z_iload_n dX12_isSign_6 rfl ?_
    refine z_bipush (v := 40) dX12_isSign_7 (by decide) ?_
    refine z_icmp_eq (tgt := 60) dX12_isSign_9 (by decide) (fun q2 => ?_) (fun q2 => ?_)
    · have hv := hv.1 q2
      refine z_iconst (v := 1) dX12_isSign_60 (by decide) ?_
      refine z_goto (tgt := 65) dX12_isSign_61 (by decide) ?_
      exact z_ireturn dX12_isSign_65 rfl (by decide) (Nat.le_refl _) (Nat.le_refl _) hv
    · have hv := hv.2 q2
      refine z_iload_n dX12_isSign_12 rfl ?_
      refine z_bipush (v := 41) dX12_isSign_13 (by decide) ?_
      refine z_icmp_eq (tgt := 60) dX12_isSign_15 (by decide) (fun q3 => ?_) (fun q3 => ?_)
      · have hv := hv.1 q3
        refine z_iconst (v := 1) dX12_isSign_60 (by decide) ?_
        refine z_goto (tgt := 65) dX12_isSign_61 (by decide) ?_
        exact z_ireturn dX12_isSign_65 rfl (by decide) (Nat.le_refl _) (Nat.le_refl _) hv
      · have hv := hv.2 q3
        refine z_iload_n dX12_isSign_18 rfl ?_
        refine z_bipush (v := 60) dX12_isSign_19 (by decide) ?_
        refine z_icmp_eq (tgt := 60) dX12_isSign_21 (by decide) (fun q4 => ?_) (fun q4 => ?_)
        · have hv := hv.1 q4
          refine z_iconst (v := 1) dX12_isSign_60 (by decide) ?_
          refine z_goto (tgt := 65) dX12_isSign_61 (by decide) ?_
          exact z_ireturn dX12_isSign_65 rfl (by decide) (Nat.le_refl _) (Nat.le_refl _) hv
        · have hv := hv.2 q4
          refine z_iload_n dX12_isSign_24 rfl ?_
          refine z_bipush (v := 62) dX12_isSign_25 (by decide) ?_
          refine z_icmp_eq (tgt := 60) dX12_isSign_27 (by decide) (fun q5 => ?_) (fun q5 => ?_)
          · have hv := hv.1 q5
            refine z_iconst (v := 1) dX12_isSign_60 (by decide) ?_
            refine z_goto (tgt := 65) dX12_isSign_61 (by decide) ?_
            exact z_ireturn dX12_isSign_65 rfl (by decide) (Nat.le_refl _) (Nat.le_refl _) hv
          · have hv := hv.2 q5
            refine z_iload_n dX12_isSign_30 rfl ?_
            refine z_bipush (v := 61) dX12_isSign_31 (by decide) ?_
            refine z_icmp_eq (tgt := 60) dX12_isSign_33 (by decide) (fun q6 => ?_) (fun q6 => ?_)
            · have hv := hv.1 q6
              refine z_iconst (v := 1) dX12_isSign_60 (by decide) ?_
              refine z_goto (tgt := 65) dX12_isSign_61 (by decide) ?_
              exact z_ireturn dX12_isSign_65 rfl (by decide) (Nat.le_refl _) (Nat.le_refl _) hv
            · have hv := hv.2 q6
              refine z_iload_n dX12_isSign_36 rfl ?_
              refine z_bipush (v := 43) dX12_isSign_37 (by decide) ?_
              refine z_icmp_eq (tgt := 60) dX12_isSign_39 (by decide) (fun q7 => ?_) (fun q7 => ?_)
              · have hv := hv.1 q7
                refine z_iconst (v := 1) dX12_isSign_60 (by decide) ?_
                refine z_goto (tgt := 65) dX12_isSign_61 (by decide) ?_
                exact z_ireturn dX12_isSign_65 rfl (by decide) (Nat.le_refl _) (Nat.le_refl _) hv
              · have hv := hv.2 q7
                refine z_iload_n dX12_isSign_42 rfl ?_
                refine z_bipush (v := 45) dX12_isSign_43 (by decide) ?_
                refine z_icmp_eq (tgt := 60) dX12_isSign_45 (by decide) (fun q8 => ?_) (fun q8 => ?_)
                · have hv := hv.1 q8
                  refine z_iconst (v := 1) dX12_isSign_60 (by decide) ?_
                  refine z_goto (tgt := 65) dX12_isSign_61 (by decide) ?_
                  exact z_ireturn dX12_isSign_65 rfl (by decide) (Nat.le_refl _) (Nat.le_refl _) hv
                · have hv := hv.2 q8
                  refine z_iload_n dX12_isSign_48 rfl ?_
                  refine z_bipush (v := 42) dX12_isSign_49 (by decide) ?_
                  refine z_icmp_eq (tgt := 60) dX12_isSign_51 (by decide) (fun q9 => ?_) (fun q9 => ?_)
                  · have hv := hv.1 q9
                    refine z_iconst (v := 1) dX12_isSign_60 (by decide) ?_
                    refine z_goto (tgt := 65) dX12_isSign_61 (by decide) ?_
                    exact z_ireturn dX12_isSign_65 rfl (by decide) (Nat.le_refl _) (Nat.le_refl _) hv
                  · have hv := hv.2 q9
                    refine z_iload_n dX12_isSign_54 rfl ?_
                    refine z_bipush (v := 47) dX12_isSign_55 (by decide) ?_
                    refine z_icmp_ne (tgt := 64) dX12_isSign_57 (by decide) (fun q10 => ?_) (fun q10 => ?_)
                    · have hv := hv.1 q10
                      refine z_iconst (v := 0) dX12_isSign_64 (by decide) ?_
                      exact z_ireturn dX12_isSign_65 rfl (by decide) (Nat.le_refl _) (Nat.le_refl _) hv
                    · have hv := hv.2 q10
                      refine z_iconst (v := 1) dX12_isSign_60 (by decide) ?_
                      refine z_goto (tgt := 65) dX12_isSign_61 (by decide) ?_
                      exact z_ireturn dX12_isSign_65 rfl (by decide) (Nat.le_refl _) (Nat.le_refl _) hv
theorem sp_X12_isSign {d : Nat} {I : zI} {L : zL} {P : zP} {x : Int32} (hP : zPk P) {K : Int32 → zI → zL → zP → Prop} (k : K (bP (x ∈ sgL)) I L P) : zMi zm_X12_isSign d [.int x] I L P K := by
  have y : x ∈ sgL → K 1 I L P := fun h => by rwa [bP_t h] at k
  refine g_X12_isSign hP ⟨fun q => qi (y (by rw [q]; decide)), fun n0 => ⟨fun q => qi (y (by rw [q]; decide)), fun n1 => ⟨fun q => qi (y (by rw [q]; decide)), fun n2 => ⟨fun q => qi (y (by rw [q]; decide)), fun n3 => ⟨fun q => qi (y (by rw [q]; decide)), fun n4 => ⟨fun q => qi (y (by rw [q]; decide)), fun n5 => ⟨fun q => qi (y (by rw [q]; decide)), fun n6 => ⟨fun q => qi (y (by rw [q]; decide)), fun n7 => ⟨fun q => qi (y (by rw [q]; decide)), fun n8 => ⟨fun n9 => qi ?_, fun q => qi (y (by rw [q]; decide))⟩⟩⟩⟩⟩⟩⟩⟩⟩⟩
  have hn : ¬ x ∈ sgL := by simp [sgL, n0, n1, n2, n3, n4, n5, n6, n7, n8, n9]
  rwa [bP_f hn] at k
abbrev gw_X12_isGood (d : Nat) (Q : zQt) (pc : Nat) (lv : zV) (st : List Value) (I : zI) (L : zL) (P : zP) : Prop := zW zm_X12_isGood (zRm d 0 0) 0 0 Q pc lv st I L P 205 0 0
abbrev v_X12_isGood (d : Nat) (Q : zQt)  (I : zI) (L : zL) (P : zP) : Prop :=
  ((¬ (I 160 4) = 0 →
    Q (some (.int 0)) I L P 205
  ) ∧ ((I 160 4) = 0 →
    Q (some (.int 1)) I L P 205
  ))
set_option maxRecDepth 20000 in
theorem g_X12_isGood {d : Nat} {Q : zQt}  {I : zI} {L : zL} {P : zP} (hP : zPk P) (hv : v_X12_isGood d Q  I L P) : zM zm_X12_isGood d 0 0 [.ref 160] I L P 205 Q := by
  unfold v_X12_isGood at hv
  refine zM_of (lv0 := [some (.ref 160)]) (by decide +kernel) (Nat.le_of_ble_eq_true rfl) rfl ?_
  refine z_aload_n dX12_isGood_0 rfl ?_
  refine z_getI dX12_isGood_1 zf_X12_158 zn_160 zo_160 (fun _ _ _ _ _ => rfl) ?_
  refine z_if_ne (tgt := 11) dX12_isGood_4 (by decide) (fun q1 => ?_) (fun q1 => ?_)
  · have hv := hv.1 q1
    refine z_iconst (v := 0) dX12_isGood_11 (by decide) ?_
    exact z_ireturn dX12_isGood_12 rfl (by decide) (Nat.le_refl _) (Nat.le_refl _) hv
  · have hv := hv.2 q1
    refine z_iconst (v := 1) dX12_isGood_7 (by decide) ?_
    refine z_goto (tgt := 12) dX12_isGood_8 (by decide) ?_
    exact z_ireturn dX12_isGood_12 rfl (by decide) (Nat.le_refl _) (Nat.le_refl _) hv
theorem sp_X12_isGood {d : Nat} {I : zI} {L : zL} {P : zP} (hP : zPk P) {K : Int32 → zI → zL → zP → Prop} (k : K (bP (I 160 4 = 0)) I L P) : zMi zm_X12_isGood d [.ref 160] I L P K := by
  refine g_X12_isGood hP ⟨fun q => qi ?_, fun q => qi ?_⟩
  · rwa [bP_f q] at k
  · rwa [bP_t q] at k
abbrev gw_X12_isWord (d : Nat) (Q : zQt) (pc : Nat) (lv : zV) (st : List Value) (I : zI) (L : zL) (P : zP) : Prop := zW zm_X12_isWord (zRm d 0 0) 0 0 Q pc lv st I L P 205 0 0
abbrev v_X12_isWord (d : Nat) (Q : zQt) (p1 : Int64) (I : zI) (L : zL) (P : zP) : Prop :=
  ((¬ (I 160 8) = 3 →
    Q (some (.int 0)) I L P 205
  ) ∧ ((I 160 8) = 3 →
    ((¬ (lg_cmp (L 160 10) p1) = 0 →
      Q (some (.int 0)) I L P 205
    ) ∧ ((lg_cmp (L 160 10) p1) = 0 →
      Q (some (.int 1)) I L P 205
    ))
  ))
set_option maxRecDepth 20000 in
theorem g_X12_isWord {d : Nat} {Q : zQt} {p1 : Int64} {I : zI} {L : zL} {P : zP} (hP : zPk P) (hv : v_X12_isWord d Q p1 I L P) : zM zm_X12_isWord d 0 0 [.ref 160, .long p1] I L P 205 Q := by
  unfold v_X12_isWord at hv
  refine zM_of (lv0 := [some (.ref 160), some (.long p1), none]) (by decide +kernel) (Nat.le_of_ble_eq_true rfl) rfl ?_
  refine z_aload_n dX12_isWord_0 rfl ?_
  refine z_getI dX12_isWord_1 zf_X12_205 zn_160 zo_160 (fun _ _ _ _ _ => rfl) ?_
  refine z_iconst (v := 3) dX12_isWord_4 (by decide) ?_
  refine z_icmp_ne (tgt := 21) dX12_isWord_5 (by decide) (fun q1 => ?_) (fun q1 => ?_)
  · have hv := hv.1 q1
    refine z_iconst (v := 0) dX12_isWord_21 (by decide) ?_
    exact z_ireturn dX12_isWord_22 rfl (by decide) (Nat.le_refl _) (Nat.le_refl _) hv
  · have hv := hv.2 q1
    refine z_aload_n dX12_isWord_8 rfl ?_
    refine z_getL dX12_isWord_9 zf_X12_212 zn_160 zo_160 (fun _ _ _ _ _ => rfl) ?_
    refine z_lload_n dX12_isWord_12 rfl ?_
    refine z_lcmp dX12_isWord_13 ?_
    refine z_if_ne (tgt := 21) dX12_isWord_14 (by decide) (fun q2 => ?_) (fun q2 => ?_)
    · have hv := hv.1 q2
      refine z_iconst (v := 0) dX12_isWord_21 (by decide) ?_
      exact z_ireturn dX12_isWord_22 rfl (by decide) (Nat.le_refl _) (Nat.le_refl _) hv
    · have hv := hv.2 q2
      refine z_iconst (v := 1) dX12_isWord_17 (by decide) ?_
      refine z_goto (tgt := 22) dX12_isWord_18 (by decide) ?_
      exact z_ireturn dX12_isWord_22 rfl (by decide) (Nat.le_refl _) (Nat.le_refl _) hv
theorem sp_X12_isWord {d : Nat} {I : zI} {L : zL} {P : zP} {x : Int64} (hP : zPk P) {K : Int32 → zI → zL → zP → Prop} (k : K (bP (I 160 8 = 3 ∧ L 160 10 = x)) I L P) : zMi zm_X12_isWord d [.ref 160, .long x] I L P K := by
  refine g_X12_isWord hP ⟨fun q => qi ?_, fun q => ⟨fun q2 => qi ?_, fun q2 => qi ?_⟩⟩
  · rwa [bP_f (fun h => q h.1)] at k
  · rw [lg_cmp_eq] at q2; rwa [bP_f (fun h => q2 h.2)] at k
  · rw [lg_cmp_eq] at q2; rwa [bP_t ⟨q, q2⟩] at k
abbrev gw_X12_stands (d : Nat) (Q : zQt) (pc : Nat) (lv : zV) (st : List Value) (I : zI) (L : zL) (P : zP) : Prop := zW zm_X12_stands (zRm d 0 0) 0 0 Q pc lv st I L P 205 0 0
abbrev v_X12_stands (d : Nat) (Q : zQt) (p1 : Int32) (I : zI) (L : zL) (P : zP) : Prop :=
  ((¬ (I 160 8) = 5 →
    Q (some (.int 0)) I L P 205
  ) ∧ ((I 160 8) = 5 →
    pSg I (I 160 6) ∧
    ((¬ (sSg I (I 160 6)) = p1 →
      Q (some (.int 0)) I L P 205
    ) ∧ ((sSg I (I 160 6)) = p1 →
      Q (some (.int 1)) I L P 205
    ))
  ))
set_option maxRecDepth 20000 in
theorem g_X12_stands {d : Nat} {Q : zQt} {p1 : Int32} {I : zI} {L : zL} {P : zP} (hP : zPk P) (hv : v_X12_stands d Q p1 I L P) : zM zm_X12_stands (d + 1) 0 0 [.ref 160, .int p1] I L P 205 Q := by
  unfold v_X12_stands at hv
  refine zM_of (lv0 := [some (.ref 160), some (.int p1)]) (by decide +kernel) (Nat.le_of_ble_eq_true rfl) rfl ?_
  refine z_aload_n dX12_stands_0 rfl ?_
  refine z_getI dX12_stands_1 zf_X12_205 zn_160 zo_160 (fun _ _ _ _ _ => rfl) ?_
  refine z_iconst (v := 5) dX12_stands_4 (by decide) ?_
  refine z_icmp_ne (tgt := 24) dX12_stands_5 (by decide) (fun q1 => ?_) (fun q1 => ?_)
  · have hv := hv.1 q1
    refine z_iconst (v := 0) dX12_stands_24 (by decide) ?_
    exact z_ireturn dX12_stands_25 rfl (by decide) (Nat.le_refl _) (Nat.le_refl _) hv
  · have hv := hv.2 q1
    refine z_aload_n dX12_stands_8 rfl ?_
    refine z_aload_n dX12_stands_9 rfl ?_
    refine z_getI dX12_stands_10 zf_X12_198 zn_160 zo_160 (fun _ _ _ _ _ => rfl) ?_
    obtain ⟨h2, hv⟩ := hv
    refine z_callV (As := [.int (I 160 6)]) (st := []) dX12_stands_13 zl_X12_201 zv_X12_sign (by decide) rfl zn_160 zo_160 rfl rfl (Nat.le_of_ble_eq_true rfl) ⟨Nat.le_refl _, Nat.le_refl _⟩ ⟨Nat.le_refl _, Nat.le_refl _⟩ (sp_X12_sign hP h2 (K := fun r I' L' P' => sSg I (I 160 6) = r ∧ I = I' ∧ L = L' ∧ P = P') ⟨rfl, rfl, rfl, rfl⟩) (fun v1 I2 L2 P2 nx1 q4 => ?_)
    obtain ⟨rfl, r3, rfl, rfl, rfl, rfl, rfl⟩ := q4
    refine z_iload_n dX12_stands_16 rfl ?_
    refine z_icmp_ne (tgt := 24) dX12_stands_17 (by decide) (fun q5 => ?_) (fun q5 => ?_)
    · have hv := hv.1 q5
      refine z_iconst (v := 0) dX12_stands_24 (by decide) ?_
      exact z_ireturn dX12_stands_25 rfl (by decide) (Nat.le_refl _) (Nat.le_refl _) hv
    · have hv := hv.2 q5
      refine z_iconst (v := 1) dX12_stands_20 (by decide) ?_
      refine z_goto (tgt := 25) dX12_stands_21 (by decide) ?_
      exact z_ireturn dX12_stands_25 rfl (by decide) (Nat.le_refl _) (Nat.le_refl _) hv
theorem sp_X12_stands {d : Nat} {I : zI} {L : zL} {P : zP} {x : Int32} (hP : zPk P) (h : I 160 8 = 5 → pSg I (I 160 6)) (hd : 1 ≤ d) {K : Int32 → zI → zL → zP → Prop} (k : K (bP (I 160 8 = 5 ∧ sSg I (I 160 6) = x)) I L P) : zMi zm_X12_stands d [.ref 160, .int x] I L P K := by
  obtain ⟨d, rfl⟩ : ∃ e, d = e + 1 := ⟨d - 1, by omega⟩
  refine g_X12_stands hP ⟨fun q => qi ?_, fun q => ⟨h q, fun q2 => qi ?_, fun q2 => qi ?_⟩⟩
  · rwa [bP_f (fun h => q h.1)] at k
  · rwa [bP_f (fun h => q2 h.2)] at k
  · rwa [bP_t ⟨q, q2⟩] at k
/-- the words, in the order of the class -/
abbrev wdL : List Int64 := [7302757, 120265298896228, 120299659095922, 495873784179, 422725643876, 7102839, 6840691, 7305070, 126862485974631, 28530, 6385252, 7237492, 469786323827, 1735356005, 461414299507, 6384748, 109330228408174]
abbrev gw_X12_isKept (d : Nat) (Q : zQt) (pc : Nat) (lv : zV) (st : List Value) (I : zI) (L : zL) (P : zP) : Prop := zW zm_X12_isKept (zRm d 0 0) 0 0 Q pc lv st I L P 205 0 0
abbrev v_X12_isKept_151 (d : Nat) (Q : zQt) (t0 : Int32) (I : zI) (L : zL) (P : zP) : Prop :=
  (t0 = 0 ∨ t0 = 1) ∧
  Q (some (.int t0)) I L P 205
set_option maxRecDepth 20000 in
theorem g_X12_isKept_151 {d : Nat} {Q : zQt} {t0 : Int32} {I : zI} {L : zL} {P : zP} (hP : zPk P) (hv : v_X12_isKept_151 d Q t0 I L P) : gw_X12_isKept d Q 151 [none, none, none] [.int t0] I L P := by
  unfold v_X12_isKept_151 at hv
  obtain ⟨h28, hv⟩ := hv
  exact z_ireturn dX12_isKept_151 rfl (zbn h28) (Nat.le_refl _) (Nat.le_refl _) hv
abbrev v_X12_isKept_146 (d : Nat) (Q : zQt)  (I : zI) (L : zL) (P : zP) : Prop :=
  gw_X12_isKept d Q 151 [none, none, none] [.int 1] I L P
set_option maxRecDepth 20000 in
theorem g_X12_isKept_146 {d : Nat} {Q : zQt}  {I : zI} {L : zL} {P : zP} (hP : zPk P) (hv : v_X12_isKept_146 d Q  I L P) : gw_X12_isKept d Q 146 [none, none, none] [] I L P := by
  unfold v_X12_isKept_146 at hv
  refine z_iconst (v := 1) dX12_isKept_146 (by decide) ?_
  refine z_goto (tgt := 151) dX12_isKept_147 (by decide) ?_
  exact hv
abbrev v_X12_isKept_72 (d : Nat) (Q : zQt) (p1 : Int64) (I : zI) (L : zL) (P : zP) : Prop :=
  ((¬ (1 : Int32) = 0 →
    gw_X12_isKept d Q 146 [none, none, none] [] I L P
  ) ∧ ((1 : Int32) = 0 →
    (((lg_cmp p1 469786323827) = 0 →
      gw_X12_isKept d Q 146 [none, none, none] [] I L P
    ) ∧ (¬ (lg_cmp p1 469786323827) = 0 →
      (((lg_cmp p1 1735356005) = 0 →
        gw_X12_isKept d Q 146 [none, none, none] [] I L P
      ) ∧ (¬ (lg_cmp p1 1735356005) = 0 →
        (((lg_cmp p1 461414299507) = 0 →
          gw_X12_isKept d Q 146 [none, none, none] [] I L P
        ) ∧ (¬ (lg_cmp p1 461414299507) = 0 →
          (((lg_cmp p1 6384748) = 0 →
            gw_X12_isKept d Q 146 [none, none, none] [] I L P
          ) ∧ (¬ (lg_cmp p1 6384748) = 0 →
            (((lg_cmp p1 109330228408174) = 0 →
              gw_X12_isKept d Q 146 [none, none, none] [] I L P
            ) ∧ (¬ (lg_cmp p1 109330228408174) = 0 →
              (((lg_cmp p1 6385252) = 0 →
                gw_X12_isKept d Q 146 [none, none, none] [] I L P
              ) ∧ (¬ (lg_cmp p1 6385252) = 0 →
                (((lg_cmp p1 28530) = 0 →
                  gw_X12_isKept d Q 146 [none, none, none] [] I L P
                ) ∧ (¬ (lg_cmp p1 28530) = 0 →
                  ((¬ (lg_cmp p1 7237492) = 0 →
                    gw_X12_isKept d Q 151 [none, none, none] [.int 0] I L P
                  ) ∧ ((lg_cmp p1 7237492) = 0 →
                    gw_X12_isKept d Q 146 [none, none, none] [] I L P
                  ))
                ))
              ))
            ))
          ))
        ))
      ))
    ))
  ))
set_option maxRecDepth 20000 in
theorem g_X12_isKept_72 {d : Nat} {Q : zQt} {p1 : Int64} {I : zI} {L : zL} {P : zP} (hP : zPk P) (hv : v_X12_isKept_72 d Q p1 I L P) : gw_X12_isKept d Q 72 [some (.long p1), none, none] [] I L P := by
  unfold v_X12_isKept_72 at hv
  refine z_iconst (v := 1) dX12_isKept_72 (by decide) ?_
  refine z_goto (tgt := 77) dX12_isKept_73 (by decide) ?_
  refine z_istore_n (lv2 := [some (.long p1), none, some (.int 1)]) dX12_isKept_77 (by decide) rfl rfl ?_
  refine z_iload_n dX12_isKept_78 rfl ?_
  refine z_if_ne (tgt := 146) dX12_isKept_79 (by decide) (fun q19 => ?_) (fun q19 => ?_)
  · have hv := hv.1 q19
    exact z_sub (by exact trivial) hv
  · have hv := hv.2 q19
    refine z_lload_n dX12_isKept_82 rfl ?_
    refine z_ldc2 (v := 469786323827) dX12_isKept_83 zj_X12_179 ?_
    refine z_lcmp dX12_isKept_86 ?_
    refine z_if_eq (tgt := 146) dX12_isKept_87 (by decide) (fun q20 => ?_) (fun q20 => ?_)
    · have hv := hv.1 q20
      exact z_sub (by exact trivial) hv
    · have hv := hv.2 q20
      refine z_lload_n dX12_isKept_90 rfl ?_
      refine z_ldc2 (v := 1735356005) dX12_isKept_91 zj_X12_181 ?_
      refine z_lcmp dX12_isKept_94 ?_
      refine z_if_eq (tgt := 146) dX12_isKept_95 (by decide) (fun q21 => ?_) (fun q21 => ?_)
      · have hv := hv.1 q21
        exact z_sub (by exact trivial) hv
      · have hv := hv.2 q21
        refine z_lload_n dX12_isKept_98 rfl ?_
        refine z_ldc2 (v := 461414299507) dX12_isKept_99 zj_X12_183 ?_
        refine z_lcmp dX12_isKept_102 ?_
        refine z_if_eq (tgt := 146) dX12_isKept_103 (by decide) (fun q22 => ?_) (fun q22 => ?_)
        · have hv := hv.1 q22
          exact z_sub (by exact trivial) hv
        · have hv := hv.2 q22
          refine z_lload_n dX12_isKept_106 rfl ?_
          refine z_ldc2 (v := 6384748) dX12_isKept_107 zj_X12_185 ?_
          refine z_lcmp dX12_isKept_110 ?_
          refine z_if_eq (tgt := 146) dX12_isKept_111 (by decide) (fun q23 => ?_) (fun q23 => ?_)
          · have hv := hv.1 q23
            exact z_sub (by exact trivial) hv
          · have hv := hv.2 q23
            refine z_lload_n dX12_isKept_114 rfl ?_
            refine z_ldc2 (v := 109330228408174) dX12_isKept_115 zj_X12_187 ?_
            refine z_lcmp dX12_isKept_118 ?_
            refine z_if_eq (tgt := 146) dX12_isKept_119 (by decide) (fun q24 => ?_) (fun q24 => ?_)
            · have hv := hv.1 q24
              exact z_sub (by exact trivial) hv
            · have hv := hv.2 q24
              refine z_lload_n dX12_isKept_122 rfl ?_
              refine z_ldc2 (v := 6385252) dX12_isKept_123 zj_X12_189 ?_
              refine z_lcmp dX12_isKept_126 ?_
              refine z_if_eq (tgt := 146) dX12_isKept_127 (by decide) (fun q25 => ?_) (fun q25 => ?_)
              · have hv := hv.1 q25
                exact z_sub (by exact trivial) hv
              · have hv := hv.2 q25
                refine z_lload_n dX12_isKept_130 rfl ?_
                refine z_ldc2 (v := 28530) dX12_isKept_131 zj_X12_191 ?_
                refine z_lcmp dX12_isKept_134 ?_
                refine z_if_eq (tgt := 146) dX12_isKept_135 (by decide) (fun q26 => ?_) (fun q26 => ?_)
                · have hv := hv.1 q26
                  exact z_sub (by exact trivial) hv
                · have hv := hv.2 q26
                  refine z_lload_n dX12_isKept_138 rfl ?_
                  refine z_ldc2 (v := 7237492) dX12_isKept_139 zj_X12_193 ?_
                  refine z_lcmp dX12_isKept_142 ?_
                  refine z_if_ne (tgt := 150) dX12_isKept_143 (by decide) (fun q27 => ?_) (fun q27 => ?_)
                  · have hv := hv.1 q27
                    refine z_iconst (v := 0) dX12_isKept_150 (by decide) ?_
                    exact z_sub (by exact trivial) hv
                  · have hv := hv.2 q27
                    exact z_sub (by exact trivial) hv
abbrev v_X12_isKept (d : Nat) (Q : zQt) (p1 : Int64) (I : zI) (L : zL) (P : zP) : Prop :=
  (((lg_cmp p1 7302757) = 0 →
    gw_X12_isKept d Q 72 [some (.long p1), none, none] [] I L P
  ) ∧ (¬ (lg_cmp p1 7302757) = 0 →
    (((lg_cmp p1 120265298896228) = 0 →
      gw_X12_isKept d Q 72 [some (.long p1), none, none] [] I L P
    ) ∧ (¬ (lg_cmp p1 120265298896228) = 0 →
      (((lg_cmp p1 120299659095922) = 0 →
        gw_X12_isKept d Q 72 [some (.long p1), none, none] [] I L P
      ) ∧ (¬ (lg_cmp p1 120299659095922) = 0 →
        (((lg_cmp p1 495873784179) = 0 →
          gw_X12_isKept d Q 72 [some (.long p1), none, none] [] I L P
        ) ∧ (¬ (lg_cmp p1 495873784179) = 0 →
          (((lg_cmp p1 422725643876) = 0 →
            gw_X12_isKept d Q 72 [some (.long p1), none, none] [] I L P
          ) ∧ (¬ (lg_cmp p1 422725643876) = 0 →
            (((lg_cmp p1 7102839) = 0 →
              gw_X12_isKept d Q 72 [some (.long p1), none, none] [] I L P
            ) ∧ (¬ (lg_cmp p1 7102839) = 0 →
              (((lg_cmp p1 6840691) = 0 →
                gw_X12_isKept d Q 72 [some (.long p1), none, none] [] I L P
              ) ∧ (¬ (lg_cmp p1 6840691) = 0 →
                (((lg_cmp p1 7305070) = 0 →
                  gw_X12_isKept d Q 72 [some (.long p1), none, none] [] I L P
                ) ∧ (¬ (lg_cmp p1 7305070) = 0 →
                  ((¬ (lg_cmp p1 126862485974631) = 0 →
                    ((¬ (0 : Int32) = 0 →
                      gw_X12_isKept d Q 146 [none, none, none] [] I L P
                    ) ∧ ((0 : Int32) = 0 →
                      (((lg_cmp p1 469786323827) = 0 →
                        gw_X12_isKept d Q 146 [none, none, none] [] I L P
                      ) ∧ (¬ (lg_cmp p1 469786323827) = 0 →
                        (((lg_cmp p1 1735356005) = 0 →
                          gw_X12_isKept d Q 146 [none, none, none] [] I L P
                        ) ∧ (¬ (lg_cmp p1 1735356005) = 0 →
                          (((lg_cmp p1 461414299507) = 0 →
                            gw_X12_isKept d Q 146 [none, none, none] [] I L P
                          ) ∧ (¬ (lg_cmp p1 461414299507) = 0 →
                            (((lg_cmp p1 6384748) = 0 →
                              gw_X12_isKept d Q 146 [none, none, none] [] I L P
                            ) ∧ (¬ (lg_cmp p1 6384748) = 0 →
                              (((lg_cmp p1 109330228408174) = 0 →
                                gw_X12_isKept d Q 146 [none, none, none] [] I L P
                              ) ∧ (¬ (lg_cmp p1 109330228408174) = 0 →
                                (((lg_cmp p1 6385252) = 0 →
                                  gw_X12_isKept d Q 146 [none, none, none] [] I L P
                                ) ∧ (¬ (lg_cmp p1 6385252) = 0 →
                                  (((lg_cmp p1 28530) = 0 →
                                    gw_X12_isKept d Q 146 [none, none, none] [] I L P
                                  ) ∧ (¬ (lg_cmp p1 28530) = 0 →
                                    ((¬ (lg_cmp p1 7237492) = 0 →
                                      gw_X12_isKept d Q 151 [none, none, none] [.int 0] I L P
                                    ) ∧ ((lg_cmp p1 7237492) = 0 →
                                      gw_X12_isKept d Q 146 [none, none, none] [] I L P
                                    ))
                                  ))
                                ))
                              ))
                            ))
                          ))
                        ))
                      ))
                    ))
                  ) ∧ ((lg_cmp p1 126862485974631) = 0 →
                    gw_X12_isKept d Q 72 [some (.long p1), none, none] [] I L P
                  ))
                ))
              ))
            ))
          ))
        ))
      ))
    ))
  ))
set_option maxRecDepth 20000 in
theorem g_X12_isKept {d : Nat} {Q : zQt} {p1 : Int64} {I : zI} {L : zL} {P : zP} (hP : zPk P) (hv : v_X12_isKept d Q p1 I L P) : zM zm_X12_isKept d 0 0 [.long p1] I L P 205 Q := by
  unfold v_X12_isKept at hv
  refine zM_of (lv0 := [some (.long p1), none, none]) (by decide +kernel) (Nat.le_of_ble_eq_true rfl) rfl ?_
  refine z_lload_n dX12_isKept_0 rfl ?_
  refine z_ldc2 (v := 7302757) dX12_isKept_1 zj_X12_161 ?_
  refine z_lcmp dX12_isKept_4 ?_
  refine z_if_eq (tgt := 72) dX12_isKept_5 (by decide) (fun q1 => ?_) (fun q1 => ?_)
  · have hv := hv.1 q1
    exact hv
  · have hv := hv.2 q1
    refine z_lload_n dX12_isKept_8 rfl ?_
    refine z_ldc2 (v := 120265298896228) dX12_isKept_9 zj_X12_163 ?_
    refine z_lcmp dX12_isKept_12 ?_
    refine z_if_eq (tgt := 72) dX12_isKept_13 (by decide) (fun q2 => ?_) (fun q2 => ?_)
    · have hv := hv.1 q2
      exact hv
    · have hv := hv.2 q2
      refine z_lload_n dX12_isKept_16 rfl ?_
      refine z_ldc2 (v := 120299659095922) dX12_isKept_17 zj_X12_165 ?_
      refine z_lcmp dX12_isKept_20 ?_
      refine z_if_eq (tgt := 72) dX12_isKept_21 (by decide) (fun q3 => ?_) (fun q3 => ?_)
      · have hv := hv.1 q3
        exact hv
      · have hv := hv.2 q3
        refine z_lload_n dX12_isKept_24 rfl ?_
        refine z_ldc2 (v := 495873784179) dX12_isKept_25 zj_X12_167 ?_
        refine z_lcmp dX12_isKept_28 ?_
        refine z_if_eq (tgt := 72) dX12_isKept_29 (by decide) (fun q4 => ?_) (fun q4 => ?_)
        · have hv := hv.1 q4
          exact hv
        · have hv := hv.2 q4
          refine z_lload_n dX12_isKept_32 rfl ?_
          refine z_ldc2 (v := 422725643876) dX12_isKept_33 zj_X12_169 ?_
          refine z_lcmp dX12_isKept_36 ?_
          refine z_if_eq (tgt := 72) dX12_isKept_37 (by decide) (fun q5 => ?_) (fun q5 => ?_)
          · have hv := hv.1 q5
            exact hv
          · have hv := hv.2 q5
            refine z_lload_n dX12_isKept_40 rfl ?_
            refine z_ldc2 (v := 7102839) dX12_isKept_41 zj_X12_171 ?_
            refine z_lcmp dX12_isKept_44 ?_
            refine z_if_eq (tgt := 72) dX12_isKept_45 (by decide) (fun q6 => ?_) (fun q6 => ?_)
            · have hv := hv.1 q6
              exact hv
            · have hv := hv.2 q6
              refine z_lload_n dX12_isKept_48 rfl ?_
              refine z_ldc2 (v := 6840691) dX12_isKept_49 zj_X12_173 ?_
              refine z_lcmp dX12_isKept_52 ?_
              refine z_if_eq (tgt := 72) dX12_isKept_53 (by decide) (fun q7 => ?_) (fun q7 => ?_)
              · have hv := hv.1 q7
                exact hv
              · have hv := hv.2 q7
                refine z_lload_n dX12_isKept_56 rfl ?_
                refine z_ldc2 (v := 7305070) dX12_isKept_57 zj_X12_175 ?_
                refine z_lcmp dX12_isKept_60 ?_
                refine z_if_eq (tgt := 72) dX12_isKept_61 (by decide) (fun q8 => ?_) (fun q8 => ?_)
                · have hv := hv.1 q8
                  exact hv
                · have hv := hv.2 q8
                  refine z_lload_n dX12_isKept_64 rfl ?_
                  refine z_ldc2 (v := 126862485974631) dX12_isKept_65 zj_X12_177 ?_
                  refine z_lcmp dX12_isKept_68 ?_
                  refine z_if_ne (tgt := 76) dX12_isKept_69 (by decide) (fun q9 => ?_) (fun q9 => ?_)
                  · have hv := hv.1 q9
                    refine z_iconst (v := 0) dX12_isKept_76 (by decide) ?_
                    refine z_istore_n (lv2 := [some (.long p1), none, some (.int 0)]) dX12_isKept_77 (by decide) rfl rfl ?_
                    refine z_iload_n dX12_isKept_78 rfl ?_
                    refine z_if_ne (tgt := 146) dX12_isKept_79 (by decide) (fun q10 => ?_) (fun q10 => ?_)
                    · have hv := hv.1 q10
                      exact z_sub (by exact trivial) hv
                    · have hv := hv.2 q10
                      refine z_lload_n dX12_isKept_82 rfl ?_
                      refine z_ldc2 (v := 469786323827) dX12_isKept_83 zj_X12_179 ?_
                      refine z_lcmp dX12_isKept_86 ?_
                      refine z_if_eq (tgt := 146) dX12_isKept_87 (by decide) (fun q11 => ?_) (fun q11 => ?_)
                      · have hv := hv.1 q11
                        exact z_sub (by exact trivial) hv
                      · have hv := hv.2 q11
                        refine z_lload_n dX12_isKept_90 rfl ?_
                        refine z_ldc2 (v := 1735356005) dX12_isKept_91 zj_X12_181 ?_
                        refine z_lcmp dX12_isKept_94 ?_
                        refine z_if_eq (tgt := 146) dX12_isKept_95 (by decide) (fun q12 => ?_) (fun q12 => ?_)
                        · have hv := hv.1 q12
                          exact z_sub (by exact trivial) hv
                        · have hv := hv.2 q12
                          refine z_lload_n dX12_isKept_98 rfl ?_
                          refine z_ldc2 (v := 461414299507) dX12_isKept_99 zj_X12_183 ?_
                          refine z_lcmp dX12_isKept_102 ?_
                          refine z_if_eq (tgt := 146) dX12_isKept_103 (by decide) (fun q13 => ?_) (fun q13 => ?_)
                          · have hv := hv.1 q13
                            exact z_sub (by exact trivial) hv
                          · have hv := hv.2 q13
                            refine z_lload_n dX12_isKept_106 rfl ?_
                            refine z_ldc2 (v := 6384748) dX12_isKept_107 zj_X12_185 ?_
                            refine z_lcmp dX12_isKept_110 ?_
                            refine z_if_eq (tgt := 146) dX12_isKept_111 (by decide) (fun q14 => ?_) (fun q14 => ?_)
                            · have hv := hv.1 q14
                              exact z_sub (by exact trivial) hv
                            · have hv := hv.2 q14
                              refine z_lload_n dX12_isKept_114 rfl ?_
                              refine z_ldc2 (v := 109330228408174) dX12_isKept_115 zj_X12_187 ?_
                              refine z_lcmp dX12_isKept_118 ?_
                              refine z_if_eq (tgt := 146) dX12_isKept_119 (by decide) (fun q15 => ?_) (fun q15 => ?_)
                              · have hv := hv.1 q15
                                exact z_sub (by exact trivial) hv
                              · have hv := hv.2 q15
                                refine z_lload_n dX12_isKept_122 rfl ?_
                                refine z_ldc2 (v := 6385252) dX12_isKept_123 zj_X12_189 ?_
                                refine z_lcmp dX12_isKept_126 ?_
                                refine z_if_eq (tgt := 146) dX12_isKept_127 (by decide) (fun q16 => ?_) (fun q16 => ?_)
                                · have hv := hv.1 q16
                                  exact z_sub (by exact trivial) hv
                                · have hv := hv.2 q16
                                  refine z_lload_n dX12_isKept_130 rfl ?_
                                  refine z_ldc2 (v := 28530) dX12_isKept_131 zj_X12_191 ?_
                                  refine z_lcmp dX12_isKept_134 ?_
                                  refine z_if_eq (tgt := 146) dX12_isKept_135 (by decide) (fun q17 => ?_) (fun q17 => ?_)
                                  · have hv := hv.1 q17
                                    exact z_sub (by exact trivial) hv
                                  · have hv := hv.2 q17
                                    refine z_lload_n dX12_isKept_138 rfl ?_
                                    refine z_ldc2 (v := 7237492) dX12_isKept_139 zj_X12_193 ?_
                                    refine z_lcmp dX12_isKept_142 ?_
                                    refine z_if_ne (tgt := 150) dX12_isKept_143 (by decide) (fun q18 => ?_) (fun q18 => ?_)
                                    · have hv := hv.1 q18
                                      refine z_iconst (v := 0) dX12_isKept_150 (by decide) ?_
                                      exact z_sub (by exact trivial) hv
                                    · have hv := hv.2 q18
                                      exact z_sub (by exact trivial) hv
                  · have hv := hv.2 q9
                    exact hv
theorem sp_X12_isKept {d : Nat} {I : zI} {L : zL} {P : zP} {x : Int64} (hP : zPk P) {K : Int32 → zI → zL → zP → Prop} (k : K (bP (x ∈ wdL)) I L P) : zMi zm_X12_isKept d [.long x] I L P K := by
  have y : x ∈ wdL → gw_X12_isKept d (fun v I' L' P' nx' => nx' = 205 ∧ ∃ r', v = some (.int r') ∧ K r' I' L' P') 146 [none, none, none] [] I L P := by
    intro h
    rw [bP_t h] at k
    refine g_X12_isKept_146 hP ?_
    exact g_X12_isKept_151 hP ⟨Or.inr rfl, qi k⟩
  have z : x ∈ wdL → gw_X12_isKept d (fun v I' L' P' nx' => nx' = 205 ∧ ∃ r', v = some (.int r') ∧ K r' I' L' P') 72 [some (.long x), none, none] [] I L P := by
    intro h
    exact g_X12_isKept_72 hP ⟨fun _ => y h, fun q => absurd q (by decide)⟩
  refine g_X12_isKept hP ⟨fun q => z (by rw [lg_cmp_eq] at q; rw [q]; decide), fun n0 => ⟨fun q => z (by rw [lg_cmp_eq] at q; rw [q]; decide), fun n1 => ⟨fun q => z (by rw [lg_cmp_eq] at q; rw [q]; decide), fun n2 => ⟨fun q => z (by rw [lg_cmp_eq] at q; rw [q]; decide), fun n3 => ⟨fun q => z (by rw [lg_cmp_eq] at q; rw [q]; decide), fun n4 => ⟨fun q => z (by rw [lg_cmp_eq] at q; rw [q]; decide), fun n5 => ⟨fun q => z (by rw [lg_cmp_eq] at q; rw [q]; decide), fun n6 => ⟨fun q => z (by rw [lg_cmp_eq] at q; rw [q]; decide), fun n7 => ⟨fun n8 => ⟨fun q => absurd rfl q, fun _ => ⟨fun q => y (by rw [lg_cmp_eq] at q; rw [q]; decide), fun n9 => ⟨fun q => y (by rw [lg_cmp_eq] at q; rw [q]; decide), fun n10 => ⟨fun q => y (by rw [lg_cmp_eq] at q; rw [q]; decide), fun n11 => ⟨fun q => y (by rw [lg_cmp_eq] at q; rw [q]; decide), fun n12 => ⟨fun q => y (by rw [lg_cmp_eq] at q; rw [q]; decide), fun n13 => ⟨fun q => y (by rw [lg_cmp_eq] at q; rw [q]; decide), fun n14 => ⟨fun q => y (by rw [lg_cmp_eq] at q; rw [q]; decide), fun n15 => ⟨fun n16 => ?_, fun q => y (by rw [lg_cmp_eq] at q; rw [q]; decide)⟩⟩⟩⟩⟩⟩⟩⟩⟩, fun q => z (by rw [lg_cmp_eq] at q; rw [q]; decide)⟩⟩⟩⟩⟩⟩⟩⟩⟩
  rw [lg_cmp_eq] at n0 n1 n2 n3 n4 n5 n6 n7 n8 n9 n10 n11 n12 n13 n14 n15 n16
  have hn : ¬ x ∈ wdL := by simp [wdL, n0, n1, n2, n3, n4, n5, n6, n7, n8, n9, n10, n11, n12, n13, n14, n15, n16]
  rw [bP_f hn] at k
  exact g_X12_isKept_151 hP ⟨Or.inl rfl, qi k⟩
