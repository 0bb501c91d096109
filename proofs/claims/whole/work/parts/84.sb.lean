/-! ===== indexOf of the signs ===== -/
abbrev gw_J1_indexOfChar_4cfef (d : Nat) (Q : zQt) (pc : Nat) (lv : zV) (st : List Value) (I : zI) (L : zL) (P : zP) : Prop := zW zm_J1_indexOfChar_4cfef (zRm d 0 0) 0 0 Q pc lv st I L P 205 0 0
abbrev v_J1_indexOfChar_4cfef_7 (d : Nat) (Q : zQt) (p1 : Nat) (p4 : Int32) (x4 : Int32) (x5 : Int32) (I : zI) (L : zL) (P : zP) : Prop :=
  ((p4 ≤ x5 →
    Q (some (.int (-1))) I L P 205
  ) ∧ (¬ p4 ≤ x5 →
    zsB p1 ∧
    vp_in x5 (zsl p1) ∧
    ((¬ (zby p1 x5.toNatClampNeg) = x4 →
      gw_J1_indexOfChar_4cfef d Q 7 [some (.ref p1), none, none, some (.int p4), some (.int x4), some (.int (x5 + 1))] [] I L P
    ) ∧ ((zby p1 x5.toNatClampNeg) = x4 →
      Q (some (.int x5)) I L P 205
    ))
  ))
set_option maxRecDepth 20000 in
theorem g_J1_indexOfChar_4cfef_7 {d : Nat} {Q : zQt} {p1 : Nat} {p4 : Int32} {x4 : Int32} {x5 : Int32} {I : zI} {L : zL} {P : zP} (hP : zPk P) (hv : v_J1_indexOfChar_4cfef_7 d Q p1 p4 x4 x5 I L P) : gw_J1_indexOfChar_4cfef d Q 7 [some (.ref p1), none, none, some (.int p4), some (.int x4), some (.int x5)] [] I L P := by
  unfold v_J1_indexOfChar_4cfef_7 at hv
  refine z_iload dJ1_indexOfChar_4cfef_7 rfl ?_
  refine z_iload_n dJ1_indexOfChar_4cfef_9 rfl ?_
  refine z_icmp_ge (tgt := 31) dJ1_indexOfChar_4cfef_10 (by decide) (fun q1 => ?_) (fun q1 => ?_)
  · have hv := hv.1 q1
    refine z_iconst (v := (-1)) dJ1_indexOfChar_4cfef_31 (by decide) ?_
    exact z_ireturn dJ1_indexOfChar_4cfef_32 rfl rfl (Nat.le_refl _) (Nat.le_refl _) hv
  · have hv := hv.2 q1
    refine z_aload_n dJ1_indexOfChar_4cfef_13 rfl ?_
    refine z_iload dJ1_indexOfChar_4cfef_14 rfl ?_
    obtain ⟨h2, hv⟩ := hv
    obtain ⟨h3, hv⟩ := hv
    refine z_baloadS dJ1_indexOfChar_4cfef_16 h2 h3 ?_
    refine z_iload dJ1_indexOfChar_4cfef_17 rfl ?_
    refine z_icmp_ne (tgt := 25) dJ1_indexOfChar_4cfef_19 (by decide) (fun q4 => ?_) (fun q4 => ?_)
    · have hv := hv.1 q4
      refine z_iinc (v2 := x5 + 1) (lv2 := [some (.ref p1), none, none, some (.int p4), some (.int x4), some (.int (x5 + 1))]) dJ1_indexOfChar_4cfef_25 rfl (by rfl) (by decide) rfl rfl ?_
      refine z_goto (tgt := 7) dJ1_indexOfChar_4cfef_28 (by decide) ?_
      exact hv
    · have hv := hv.2 q4
      refine z_iload dJ1_indexOfChar_4cfef_22 rfl ?_
      exact z_ireturn dJ1_indexOfChar_4cfef_24 rfl rfl (Nat.le_refl _) (Nat.le_refl _) hv
abbrev v_J1_indexOfChar_4cfef (d : Nat) (Q : zQt) (p1 : Nat) (p2 : Int32) (p3 : Int32) (p4 : Int32) (I : zI) (L : zL) (P : zP) : Prop :=
  gw_J1_indexOfChar_4cfef d Q 7 [some (.ref p1), none, none, some (.int p4), some (.int ((p2 : Int32).toInt8.toInt32)), some (.int p3)] [] I L P
set_option maxRecDepth 20000 in
theorem g_J1_indexOfChar_4cfef {d : Nat} {Q : zQt} {p1 : Nat} {p2 : Int32} {p3 : Int32} {p4 : Int32} {I : zI} {L : zL} {P : zP} (hP : zPk P) (hv : v_J1_indexOfChar_4cfef d Q p1 p2 p3 p4 I L P) : zM zm_J1_indexOfChar_4cfef d 0 0 [.ref p1, .int p2, .int p3, .int p4] I L P 205 Q := by
  unfold v_J1_indexOfChar_4cfef at hv
  refine zM_of (lv0 := [some (.ref p1), some (.int p2), some (.int p3), some (.int p4), none, none]) (by decide +kernel) (Nat.le_of_ble_eq_true rfl) rfl ?_
  refine z_iload_n dJ1_indexOfChar_4cfef_0 rfl ?_
  refine z_i2b dJ1_indexOfChar_4cfef_1 ?_
  refine z_istore (lv2 := [some (.ref p1), some (.int p2), some (.int p3), some (.int p4), some (.int ((p2 : Int32).toInt8.toInt32)), none]) dJ1_indexOfChar_4cfef_2 (by decide) rfl rfl ?_
  refine z_iload_n dJ1_indexOfChar_4cfef_4 rfl ?_
  refine z_istore (lv2 := [some (.ref p1), some (.int p2), some (.int p3), some (.int p4), some (.int ((p2 : Int32).toInt8.toInt32)), some (.int p3)]) dJ1_indexOfChar_4cfef_5 (by decide) rfl rfl ?_
  exact z_sub (by exact ⟨rfl, ⟨rfl, ⟨rfl, ⟨rfl, trivial⟩⟩⟩⟩) hv
theorem lp_indexOfChar {d : Nat} {Q : zQt} {I : zI} {L : zL} {P : zP} {x : Int32} (hP : zPk P) (k0 : (∀ j, j < 10 → ¬ zby 2000001 j = x) → Q (some (.int (-1))) I L P 205) (kk : ∀ j, j < 10 → zby 2000001 j = x → Q (some (.int (nI j))) I L P 205) :
    ∀ m i, i + m = 10 → (∀ j, j < i → ¬ zby 2000001 j = x) → gw_J1_indexOfChar_4cfef d Q 7 [some (.ref 2000001), none, none, some (.int (nI 10)), some (.int x), some (.int (nI i))] [] I L P := by
  have e10 : zsl 2000001 = 10 := rfl
  intro m
  induction m with
  | zero =>
    intro i hi h1
    have : i = 10 := by omega
    subst this
    exact g_J1_indexOfChar_4cfef_7 hP ⟨fun _ => k0 h1, fun q => absurd (by decide) q⟩
  | succ m ih =>
    intro i hi h1
    refine g_J1_indexOfChar_4cfef_7 hP ⟨fun q => absurd q (nI_ge (by omega) (by decide)), fun _ => ⟨Or.inr rfl, by rw [e10]; exact nx_in (by omega) (by decide), fun q => ?_, fun q => ?_⟩⟩
    · rw [nI_cl (by omega)] at q
      rw [nI_1]
      refine ih (i + 1) (by omega) (fun j hj => ?_)
      rcases Nat.lt_succ_iff_lt_or_eq.mp hj with z | z
      · exact h1 j z
      · subst z; exact q
    · rw [nI_cl (by omega)] at q
      exact kk i (by omega) q
abbrev gw_J1_indexOf_4cfef (d : Nat) (Q : zQt) (pc : Nat) (lv : zV) (st : List Value) (I : zI) (L : zL) (P : zP) : Prop := zW zm_J1_indexOf_4cfef (zRm d 0 0) 0 0 Q pc lv st I L P 205 0 0
abbrev v_J1_indexOf_4cfef (d : Nat) (Q : zQt) (p1 : Nat) (p2 : Int32) (p3 : Int32) (p4 : Int32) (I : zI) (L : zL) (P : zP) : Prop :=
  zMi zm_J1_canEncode_9a6ad d [.int p2] I L P (fun r5 I1 L2 P3 =>
    ((¬ r5 = 0 →
      zsB p1 ∧
      (((if p3 < 0 then 0 else p3) < (if (nI (zsl p1)) < p4 then (nI (zsl p1)) else p4) →
        zMi zm_J1_indexOfChar_4cfef d [.ref p1, .int p2, .int (if p3 < 0 then 0 else p3), .int (if (nI (zsl p1)) < p4 then (nI (zsl p1)) else p4)] I1 L2 P3 (fun r13 I9 L10 P11 =>
          Q (some (.int r13)) I9 L10 P11 205
        )
      ) ∧ (¬ (if p3 < 0 then 0 else p3) < (if (nI (zsl p1)) < p4 then (nI (zsl p1)) else p4) →
        Q (some (.int (-1))) I1 L2 P3 205
      ))
    ) ∧ (r5 = 0 →
      Q (some (.int (-1))) I1 L2 P3 205
    ))
  )
set_option maxRecDepth 20000 in
theorem g_J1_indexOf_4cfef {d : Nat} {Q : zQt} {p1 : Nat} {p2 : Int32} {p3 : Int32} {p4 : Int32} {I : zI} {L : zL} {P : zP} (hP : zPk P) (hv : v_J1_indexOf_4cfef d Q p1 p2 p3 p4 I L P) : zM zm_J1_indexOf_4cfef (d + 1) 0 0 [.ref p1, .int p2, .int p3, .int p4] I L P 205 Q := by
  unfold v_J1_indexOf_4cfef at hv
  refine zM_of (lv0 := [some (.ref p1), some (.int p2), some (.int p3), some (.int p4)]) (by decide +kernel) (Nat.le_of_ble_eq_true rfl) rfl ?_
  refine z_iload_n dJ1_indexOf_4cfef_0 rfl ?_
  refine z_callS (As := [.int p2]) (st := []) dJ1_indexOf_4cfef_1 zl_J1_88 zs_J1_canEncode_9a6ad rfl rfl (Nat.le_of_ble_eq_true rfl) ⟨Nat.le_refl _, Nat.le_refl _⟩ ⟨Nat.le_refl _, Nat.le_refl _⟩ hv (fun v1 I1 L2 P3 nx1 q4 => ?_)
  obtain ⟨rfl, r5, rfl, hv⟩ := q4
  refine z_if_ne (tgt := 9) dJ1_indexOf_4cfef_4 (by decide) (fun q6 => ?_) (fun q6 => ?_)
  · have hv := hv.1 q6
    refine z_iload_n dJ1_indexOf_4cfef_9 rfl ?_
    refine z_iconst (v := 0) dJ1_indexOf_4cfef_10 (by decide) ?_
    refine z_mmax dJ1_indexOf_4cfef_11 zl_J1_92 (Nat.le_of_ble_eq_true rfl) ⟨Nat.le_add_left _ _, zr64 _⟩ (Nat.zero_le _) (Nat.zero_le _) ?_
    refine z_istore_n (lv2 := [some (.ref p1), some (.int p2), some (.int (if p3 < 0 then 0 else p3)), some (.int p4)]) dJ1_indexOf_4cfef_14 (by decide) rfl rfl ?_
    refine z_iload_n dJ1_indexOf_4cfef_15 rfl ?_
    refine z_aload_n dJ1_indexOf_4cfef_16 rfl ?_
    obtain ⟨h7, hv⟩ := hv
    refine z_alenS dJ1_indexOf_4cfef_17 h7 ?_
    refine z_mmin dJ1_indexOf_4cfef_18 zl_J1_38 (Nat.le_of_ble_eq_true rfl) ⟨Nat.le_add_left _ _, zr64 _⟩ (Nat.zero_le _) (Nat.zero_le _) ?_
    refine z_istore_n (lv2 := [some (.ref p1), some (.int p2), some (.int (if p3 < 0 then 0 else p3)), some (.int (if (nI (zsl p1)) < p4 then (nI (zsl p1)) else p4))]) dJ1_indexOf_4cfef_21 (by decide) rfl rfl ?_
    refine z_iload_n dJ1_indexOf_4cfef_22 rfl ?_
    refine z_iload_n dJ1_indexOf_4cfef_23 rfl ?_
    refine z_icmp_lt (tgt := 29) dJ1_indexOf_4cfef_24 (by decide) (fun q8 => ?_) (fun q8 => ?_)
    · have hv := hv.1 q8
      refine z_aload_n dJ1_indexOf_4cfef_29 rfl ?_
      refine z_iload_n dJ1_indexOf_4cfef_30 rfl ?_
      refine z_iload_n dJ1_indexOf_4cfef_31 rfl ?_
      refine z_iload_n dJ1_indexOf_4cfef_32 rfl ?_
      refine z_callS (As := [.ref p1, .int p2, .int (if p3 < 0 then 0 else p3), .int (if (nI (zsl p1)) < p4 then (nI (zsl p1)) else p4)]) (st := []) dJ1_indexOf_4cfef_33 zl_J1_95 zs_J1_indexOfChar_4cfef rfl rfl (Nat.le_of_ble_eq_true rfl) ⟨Nat.le_refl _, Nat.le_refl _⟩ ⟨Nat.le_refl _, Nat.le_refl _⟩ hv (fun v1 I9 L10 P11 nx1 q12 => ?_)
      obtain ⟨rfl, r13, rfl, hv⟩ := q12
      exact z_ireturn dJ1_indexOf_4cfef_36 rfl rfl (Nat.le_refl _) (Nat.le_refl _) hv
    · have hv := hv.2 q8
      refine z_iconst (v := (-1)) dJ1_indexOf_4cfef_27 (by decide) ?_
      exact z_ireturn dJ1_indexOf_4cfef_28 rfl rfl (Nat.le_refl _) (Nat.le_refl _) hv
  · have hv := hv.2 q6
    refine z_iconst (v := (-1)) dJ1_indexOf_4cfef_7 (by decide) ?_
    exact z_ireturn dJ1_indexOf_4cfef_8 rfl rfl (Nat.le_refl _) (Nat.le_refl _) hv
abbrev gw_J0_indexOf_7cf53 (d : Nat) (Q : zQt) (pc : Nat) (lv : zV) (st : List Value) (I : zI) (L : zL) (P : zP) : Prop := zW zm_J0_indexOf_7cf53 (zRm d 0 0) 0 0 Q pc lv st I L P 205 0 0
abbrev v_J0_indexOf_7cf53 (d : Nat) (Q : zQt) (a : Nat) (p1 : Int32) (p2 : Int32) (I : zI) (L : zL) (P : zP) : Prop :=
  zsS a ∧
  zMi zm_J0_isLatin1_aae02 d [.ref a] I L P (fun r6 I2 L3 P4 =>
    ((r6 = 0 →
      False
    ) ∧ (¬ r6 = 0 →
      zMi zm_J0_length_8abf5 d [.ref a] I2 L3 P4 (fun r12 I8 L9 P10 =>
        zMi zm_J1_indexOf_4cfef d [.ref (a + 1000000), .int p1, .int p2, .int r12] I8 L9 P10 (fun r17 I13 L14 P15 =>
          Q (some (.int r17)) I13 L14 P15 205
        )
      )
    ))
  )
set_option maxRecDepth 20000 in
theorem g_J0_indexOf_7cf53 {d : Nat} {Q : zQt} {a : Nat} {p1 : Int32} {p2 : Int32} {I : zI} {L : zL} {P : zP} (hP : zPk P) (hv : v_J0_indexOf_7cf53 d Q a p1 p2 I L P) : zM zm_J0_indexOf_7cf53 (d + 1) 0 0 [.ref a, .int p1, .int p2] I L P 205 Q := by
  unfold v_J0_indexOf_7cf53 at hv
  refine zM_of (lv0 := [some (.ref a), some (.int p1), some (.int p2)]) (by decide +kernel) (Nat.le_of_ble_eq_true rfl) rfl ?_
  refine z_aload_n dJ0_indexOf_7cf53_0 rfl ?_
  obtain ⟨h1, hv⟩ := hv
  refine z_callVS (As := []) (st := []) dJ0_indexOf_7cf53_1 zl_J0_492 zv_J0_isLatin1_aae02 rfl h1 rfl rfl (Nat.le_of_ble_eq_true rfl) ⟨Nat.le_refl _, Nat.le_refl _⟩ ⟨Nat.le_refl _, Nat.le_refl _⟩ hv (fun v1 I2 L3 P4 nx1 q5 => ?_)
  obtain ⟨rfl, r6, rfl, hv⟩ := q5
  refine z_if_eq (tgt := 23) dJ0_indexOf_7cf53_4 (by decide) (fun q7 => ?_) (fun q7 => ?_)
  · have hv := hv.1 q7
    exact hv.elim
  · have hv := hv.2 q7
    refine z_aload_n dJ0_indexOf_7cf53_7 rfl ?_
    refine z_getSv rfl dJ0_indexOf_7cf53_8 h1 ?_
    refine z_iload_n dJ0_indexOf_7cf53_11 rfl ?_
    refine z_iload_n dJ0_indexOf_7cf53_12 rfl ?_
    refine z_aload_n dJ0_indexOf_7cf53_13 rfl ?_
    refine z_callVS (As := []) (st := [.int p2, .int p1, .ref (a + 1000000)]) dJ0_indexOf_7cf53_14 zl_J0_505 zv_J0_length_8abf5 rfl h1 rfl rfl (Nat.le_of_ble_eq_true rfl) ⟨Nat.le_refl _, Nat.le_refl _⟩ ⟨Nat.le_refl _, Nat.le_refl _⟩ hv (fun v1 I8 L9 P10 nx1 q11 => ?_)
    obtain ⟨rfl, r12, rfl, hv⟩ := q11
    refine z_callS (As := [.ref (a + 1000000), .int p1, .int p2, .int r12]) (st := []) dJ0_indexOf_7cf53_17 zl_J0_637 zs_J1_indexOf_4cfef rfl rfl (Nat.le_of_ble_eq_true rfl) ⟨Nat.le_refl _, Nat.le_refl _⟩ ⟨Nat.le_refl _, Nat.le_refl _⟩ hv (fun v1 I13 L14 P15 nx1 q16 => ?_)
    obtain ⟨rfl, r17, rfl, hv⟩ := q16
    refine z_goto (tgt := 36) dJ0_indexOf_7cf53_20 (by decide) ?_
    exact z_ireturn dJ0_indexOf_7cf53_36 rfl rfl (Nat.le_refl _) (Nat.le_refl _) hv
abbrev gw_J0_indexOf_0f7a4 (d : Nat) (Q : zQt) (pc : Nat) (lv : zV) (st : List Value) (I : zI) (L : zL) (P : zP) : Prop := zW zm_J0_indexOf_0f7a4 (zRm d 0 0) 0 0 Q pc lv st I L P 205 0 0
abbrev v_J0_indexOf_0f7a4 (d : Nat) (Q : zQt) (a : Nat) (p1 : Int32) (I : zI) (L : zL) (P : zP) : Prop :=
  zsS a ∧
  zMi zm_J0_indexOf_7cf53 d [.ref a, .int p1, .int 0] I L P (fun r6 I2 L3 P4 =>
    Q (some (.int r6)) I2 L3 P4 205
  )
set_option maxRecDepth 20000 in
theorem g_J0_indexOf_0f7a4 {d : Nat} {Q : zQt} {a : Nat} {p1 : Int32} {I : zI} {L : zL} {P : zP} (hP : zPk P) (hv : v_J0_indexOf_0f7a4 d Q a p1 I L P) : zM zm_J0_indexOf_0f7a4 (d + 1) 0 0 [.ref a, .int p1] I L P 205 Q := by
  unfold v_J0_indexOf_0f7a4 at hv
  refine zM_of (lv0 := [some (.ref a), some (.int p1)]) (by decide +kernel) (Nat.le_of_ble_eq_true rfl) rfl ?_
  refine z_aload_n dJ0_indexOf_0f7a4_0 rfl ?_
  refine z_iload_n dJ0_indexOf_0f7a4_1 rfl ?_
  refine z_iconst (v := 0) dJ0_indexOf_0f7a4_2 (by decide) ?_
  obtain ⟨h1, hv⟩ := hv
  refine z_callVS (As := [.int p1, .int 0]) (st := []) dJ0_indexOf_0f7a4_3 zl_J0_633 zv_J0_indexOf_7cf53 rfl h1 rfl rfl (Nat.le_of_ble_eq_true rfl) ⟨Nat.le_refl _, Nat.le_refl _⟩ ⟨Nat.le_refl _, Nat.le_refl _⟩ hv (fun v1 I2 L3 P4 nx1 q5 => ?_)
  obtain ⟨rfl, r6, rfl, hv⟩ := q5
  exact z_ireturn dJ0_indexOf_0f7a4_6 rfl rfl (Nat.le_refl _) (Nat.le_refl _) hv
theorem sp_indexOf {d f : Nat} {I : zI} {L : zL} {P : zP} (hP : zPk P) (hf : f < 256) (hd : 4 ≤ d) {K : Int32 → zI → zL → zP → Prop} (k0 : ¬ nI f ∈ sgL → K (-1) I L P) (kk : nI f ∈ sgL → ∀ j, j < 10 → K (nI j) I L P) : zMi zm_J0_indexOf_0f7a4 d [.ref 1000001, .int (((nI f : Int32).toUInt32 % 65536).toInt32)] I L P K := by
  obtain ⟨d, rfl⟩ : ∃ e, d = e + 3 := ⟨d - 3, by omega⟩
  have hs : zsS 1000001 := Or.inr rfl
  have e10 : zsl 2000001 = 10 := rfl
  have key : ∀ f, f < 256 → (((nI f : Int32).toUInt32 % 65536).toInt32 = nI f) ∧ ((∃ j, j < 10 ∧ zby 2000001 j = (nI f : Int32).toInt8.toInt32) ↔ nI f ∈ sgL) := by
    have : ∀ f, f < 256 → (((nI f : Int32).toUInt32 % 65536).toInt32 = nI f) ∧ ((∃ j : Fin 10, zby 2000001 j.1 = (nI f : Int32).toInt8.toInt32) ↔ nI f ∈ sgL) := by decide +kernel
    intro f hf
    refine ⟨(this f hf).1, ?_⟩
    rw [← (this f hf).2]
    exact ⟨fun ⟨j, h1, h2⟩ => ⟨⟨j, h1⟩, h2⟩, fun ⟨j, h⟩ => ⟨j.1, j.2, h⟩⟩
  obtain ⟨e1, e2⟩ := key f hf
  rw [e1]
  refine g_J0_indexOf_0f7a4 hP ⟨hs, g_J0_indexOf_7cf53 hP ⟨hs, sp_isLatin1 hP hs ⟨fun q => absurd q (by decide), fun _ => sp_length hP hs (by omega) ?_⟩⟩⟩
  show zMi zm_J1_indexOf_4cfef (d + 1) [.ref 2000001, .int (nI f), .int 0, .int (nI 10)] I L P _
  refine g_J1_indexOf_4cfef hP (sp_canEncode hP ⟨fun _ => ⟨Or.inr rfl, fun _ => ?_, fun q => absurd (by rw [e10]; decide) q⟩, fun q => absurd ⟨nI_pos (by omega), ?_⟩ (bP_0.mp q)⟩)
  · have e0 : (if (0 : Int32) < 0 then (0 : Int32) else 0) = 0 := by decide
    have e3 : (if nI (zsl 2000001) < nI 10 then nI (zsl 2000001) else nI 10) = nI 10 := by rw [e10]; decide
    rw [e0, e3]
    refine g_J1_indexOfChar_4cfef hP (lp_indexOfChar hP (fun h => ⟨rfl, _, rfl, rfl, _, rfl, rfl, _, rfl, rfl, _, rfl, k0 (fun z => ?_)⟩) (fun j hj h => ⟨rfl, _, rfl, rfl, _, rfl, rfl, _, rfl, rfl, _, rfl, kk (e2.mp ⟨j, hj, h⟩) j hj⟩) 10 0 rfl (fun j hj => absurd hj (Nat.not_lt_zero j)))
    obtain ⟨j, hj, h'⟩ := e2.mpr z
    exact h j hj h'
  · rw [show (255 : Int32) = nI 255 from rfl]; exact nI_nlt (by omega) (by decide)
