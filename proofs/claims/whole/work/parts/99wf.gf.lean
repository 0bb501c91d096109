/-! ===== the tokens' words out of the constant ===== -/
theorem nI_mul (a b : Nat) : nI a * nI b = nI (a * b) := (Int32.ofNat_mul a b).symm
theorem nI_m8 (i : Nat) : nI i * 8 = nI (8 * i) := by
  rw [show (8 : Int32) = nI 8 from by decide, nI_mul, Nat.mul_comm]
def twC (j : Nat) : Int32 := zby 2000000 j &&& 255
def twF (i : Nat) : Nat → Int64
  | 0 => 0
  | k + 1 => if twC (8 * i + k) = 32 then twF i k else (twF i k <<< ((8 : Int32).toInt64 &&& 63)) ||| (twC (8 * i + k)).toInt64
theorem twF_all : ∀ i (h : i < 17), twF i 8 = wdL[i]'h := by decide +kernel
def tIn (L0 : zL) (i k : Nat) (L : zL) : Prop := (∀ b, b ≠ 19 → L b = L0 b) ∧ (∀ j, j < i → L 19 j = twF j 8) ∧ L 19 i = twF i k ∧ ∀ j, i < j → j < 17 → L 19 j = 0
abbrev tkW (Q : zQt) (pc : Nat) (lv : zV) (st : List Value) (I : zI) (L : zL) (P : zP) : Prop := zW zm_X9_init (zRm 10 4 4820) 4 4820 Q pc lv st I L P 23 4 4820
theorem zsS_0 : zsS 1000000 := Or.inl rfl
theorem zsl_0 : zsl (1000000 + 1000000) = 136 := rfl
theorem tk_put {L0 L : zL} {i k : Nat} (hi : i < 17) (h : tIn L0 i k L) (hc : ¬ twC (8 * i + k) = 32) : tIn L0 i (k + 1) (zuL L 19 i ((L 19 i <<< ((8 : Int32).toInt64 &&& 63)) ||| (twC (8 * i + k)).toInt64)) := by
  obtain ⟨h1, h2, h3, h4⟩ := h
  refine ⟨fun b hb => by rw [zuL_ne hb]; exact h1 b hb, fun j hj => ?_, ?_, fun j hj hj2 => ?_⟩
  · rw [zuL_at]
    show (if j = i then _ else L 19 j) = _
    rw [if_neg (by omega)]
    exact h2 j hj
  · rw [zuL_at, h3]
    show (if i = i then _ else L 19 i) = _
    rw [if_pos rfl]
    show _ = if twC (8 * i + k) = 32 then twF i k else _
    rw [if_neg hc]
  · rw [zuL_at]
    show (if j = i then _ else L 19 j) = _
    rw [if_neg (by omega)]
    exact h4 j hj hj2
theorem tk_in {Q : zQt} {I : zI} {L0 : zL} {P : zP} {i : Nat} (hi : i < 17) (hp : P 18 1 = some 19) (kk : ∀ L, tIn L0 i 8 L → tkW Q 126 [some (.ref 18), some (.ref 1), some (.int (nI i)), some (.int (nI (8 * i + 8)))] [] I L P) :
    ∀ m k L, k + m = 8 → tIn L0 i k L → tkW Q 67 [some (.ref 18), some (.ref 1), some (.int (nI i)), some (.int (nI (8 * i + k)))] [] I L P
  | 0, k, L, hm, h => by
    have : k = 8 := by omega
    subst this
    refine z_iload_n dX9_init_67 rfl ?_
    refine z_iload_n dX9_init_68 rfl ?_
    refine z_iconst (v := 1) dX9_init_69 (by decide) ?_
    refine z_iadd dX9_init_70 ?_
    refine z_bipush (v := 8) dX9_init_71 (by decide) ?_
    refine z_imul dX9_init_73 ?_
    rw [nI_1, nI_m8]
    refine z_icmp_ge (tgt := 126) dX9_init_74 (by decide) (fun _ => kk L h) (fun q => absurd (nI_le (by omega) (by omega)) q)
  | m + 1, k, L, hm, h => by
    have hk : 8 * i + k < 136 := by omega
    have next : ∀ L', tIn L0 i (k + 1) L' → tkW Q 120 [some (.ref 18), some (.ref 1), some (.int (nI i)), some (.int (nI (8 * i + k)))] [] I L' P := by
      intro L' h'
      refine z_iinc (v2 := nI (8 * i + (k + 1))) (lv2 := [some (.ref 18), some (.ref 1), some (.int (nI i)), some (.int (nI (8 * i + (k + 1))))]) dX9_init_120 rfl (nI_1 _) (by decide) rfl rfl ?_
      refine z_goto (tgt := 67) dX9_init_123 (by decide) ?_
      exact tk_in hi hp kk m (k + 1) L' (by omega) h'
    refine z_iload_n dX9_init_67 rfl ?_
    refine z_iload_n dX9_init_68 rfl ?_
    refine z_iconst (v := 1) dX9_init_69 (by decide) ?_
    refine z_iadd dX9_init_70 ?_
    refine z_bipush (v := 8) dX9_init_71 (by decide) ?_
    refine z_imul dX9_init_73 ?_
    rw [nI_1, nI_m8]
    refine z_icmp_ge (tgt := 126) dX9_init_74 (by decide) (fun q => absurd q (nI_ge (by omega) (by omega))) (fun _ => ?_)
    refine z_iload_n dX9_init_77 rfl ?_
    refine z_ldcS0 rfl dX9_init_78 ?_
    refine z_callVS (As := []) (st := [.int (nI (8 * i + k))]) dX9_init_80 zl_X9_42 zv_J0_length_8abf5 rfl zsS_0 rfl rfl (Nat.le_of_ble_eq_true rfl) ⟨Nat.le_of_ble_eq_true rfl, Nat.le_of_ble_eq_true rfl⟩ ⟨Nat.le_refl _, Nat.le_refl _⟩ (s2_length (d := 0) zsS_0 (K := fun r I' L' P' => nI 136 = r ∧ I = I' ∧ L = L' ∧ P = P') ⟨rfl, rfl, rfl, rfl⟩) (fun v1 I2 L2 P2 nx1 q => ?_)
    obtain ⟨rfl, r, rfl, rfl, rfl, rfl, rfl⟩ := q
    refine z_icmp_ge (tgt := 120) dX9_init_83 (by decide) (fun q => absurd q (nI_ge hk (by decide))) (fun _ => ?_)
    refine z_ldcS0 rfl dX9_init_86 ?_
    refine z_iload_n dX9_init_88 rfl ?_
    refine z_callVS (As := [.int (nI (8 * i + k))]) (st := []) dX9_init_89 zl_X9_48 zv_J0_charAt_5068e rfl zsS_0 rfl rfl (Nat.le_of_ble_eq_true rfl) ⟨Nat.le_of_ble_eq_true rfl, Nat.le_of_ble_eq_true rfl⟩ ⟨Nat.le_refl _, Nat.le_refl _⟩ (s2_charAt (d := 0) zsS_0 (by rw [zsl_0]; exact hk) (by rw [zsl_0]; decide) (K := fun r I' L' P' => twC (8 * i + k) = r ∧ I = I' ∧ L = L' ∧ P = P') ⟨rfl, rfl, rfl, rfl⟩) (fun v1 I2 L2 P2 nx1 q => ?_)
    obtain ⟨rfl, r, rfl, rfl, rfl, rfl, rfl⟩ := q
    refine z_bipush (v := 32) dX9_init_92 (by decide) ?_
    refine z_icmp_eq (tgt := 120) dX9_init_94 (by decide) (fun q => ?_) (fun q => ?_)
    · refine next L ⟨h.1, h.2.1, ?_, h.2.2.2⟩
      rw [h.2.2.1]
      show _ = if twC (8 * i + k) = 32 then twF i k else _
      rw [if_pos q]
    · refine z_aload_n dX9_init_97 rfl ?_
      refine z_getP (b := 19) dX9_init_98 zf_X9_11 (by decide) rfl (fun _ _ _ _ _ => rfl) hp ?_
      refine z_iload_n dX9_init_101 rfl ?_
      refine z_aload_n dX9_init_102 rfl ?_
      refine z_getP (b := 19) dX9_init_103 zf_X9_11 (by decide) rfl (fun _ _ _ _ _ => rfl) hp ?_
      refine z_iload_n dX9_init_106 rfl ?_
      refine z_laload dX9_init_107 (by decide) (n := 17) rfl (nx_in hi (by decide)) ?_
      refine z_bipush (v := 8) dX9_init_108 (by decide) ?_
      refine z_lshl dX9_init_110 ?_
      refine z_ldcS0 rfl dX9_init_111 ?_
      refine z_iload_n dX9_init_113 rfl ?_
      refine z_callVS (As := [.int (nI (8 * i + k))]) (st := [.long (L 19 (nI i).toNatClampNeg <<< ((8 : Int32).toInt64 &&& 63)), .int (nI i), .ref 19]) dX9_init_114 zl_X9_48 zv_J0_charAt_5068e rfl zsS_0 rfl rfl (Nat.le_of_ble_eq_true rfl) ⟨Nat.le_of_ble_eq_true rfl, Nat.le_of_ble_eq_true rfl⟩ ⟨Nat.le_refl _, Nat.le_refl _⟩ (s2_charAt (d := 0) zsS_0 (by rw [zsl_0]; exact hk) (by rw [zsl_0]; decide) (K := fun r I' L' P' => twC (8 * i + k) = r ∧ I = I' ∧ L = L' ∧ P = P') ⟨rfl, rfl, rfl, rfl⟩) (fun v1 I2 L2 P2 nx1 q => ?_)
      obtain ⟨rfl, r, rfl, rfl, rfl, rfl, rfl⟩ := q
      refine z_i2l dX9_init_117 ?_
      refine z_lor dX9_init_118 ?_
      refine z_lastore dX9_init_119 (by decide) (n := 17) rfl (nx_in hi (by decide)) ?_
      rw [nI_cl (show i < 2 ^ 31 by omega)]
      exact next _ (tk_put hi h q)
theorem tk_out {Q : zQt} {I : zI} {L0 : zL} {P : zP} (hp : P 18 1 = some 19) (kk : ∀ L, (∀ b, b ≠ 19 → L b = L0 b) → wdR L → Q none I L P 23) :
    ∀ m i L, i + m = 17 → (∀ b, b ≠ 19 → L b = L0 b) → (∀ j, j < i → L 19 j = twF j 8) → (∀ j, i ≤ j → j < 17 → L 19 j = 0) → ∀ v3, tkW Q 56 [some (.ref 18), some (.ref 1), some (.int (nI i)), v3] [] I L P
  | 0, i, L, hm, h1, h2, h3, v3 => by
    have : i = 17 := by omega
    subst this
    refine z_iload_n dX9_init_56 rfl ?_
    refine z_bipush (v := 17) dX9_init_57 (by decide) ?_
    refine z_icmp_ge (tgt := 132) dX9_init_59 (by decide) (fun _ => ?_) (fun q => absurd (by decide) q)
    exact z_return dX9_init_132 rfl (Nat.le_refl _) (Nat.le_refl _) (kk L h1 (fun i hi => by rw [h2 i hi]; exact twF_all i hi))
  | m + 1, i, L, hm, h1, h2, h3, v3 => by
    have hi : i < 17 := by omega
    refine z_iload_n dX9_init_56 rfl ?_
    refine z_bipush (v := 17) dX9_init_57 (by decide) ?_
    refine z_icmp_ge (tgt := 132) dX9_init_59 (by decide) (fun q => absurd (show nI 17 ≤ nI i from q) (nI_ge hi (by decide))) (fun _ => ?_)
    refine z_iload_n dX9_init_62 rfl ?_
    refine z_bipush (v := 8) dX9_init_63 (by decide) ?_
    refine z_imul dX9_init_65 ?_
    rw [nI_m8]
    refine z_istore_n (lv2 := [some (.ref 18), some (.ref 1), some (.int (nI i)), some (.int (nI (8 * i)))]) dX9_init_66 (by decide) rfl rfl ?_
    refine tk_in hi hp (fun L' h => ?_) 8 0 L rfl ⟨h1, h2, h3 i (Nat.le_refl _) hi, fun j hj hj2 => h3 j (by omega) hj2⟩
    refine z_iinc (v2 := nI (i + 1)) (lv2 := [some (.ref 18), some (.ref 1), some (.int (nI (i + 1))), some (.int (nI (8 * i + 8)))]) dX9_init_126 rfl (nI_1 _) (by decide) rfl rfl ?_
    refine z_goto (tgt := 56) dX9_init_129 (by decide) ?_
    refine tk_out hp kk m (i + 1) L' (by omega) h.1 (fun j hj => ?_) (fun j hj hj2 => h.2.2.2 j (by omega) hj2) _
    by_cases hj2 : j = i
    · subst hj2
      exact h.2.2.1
    · exact h.2.1 j (by omega)
set_option maxRecDepth 20000 in
theorem k_X9_init_18 {Q : zQt} {I : zI} {L : zL} {l : List ((Nat × Nat) × Nat)} (hF : zFz 19 I L (pL l)) (hI : ∀ k, I 18 k = 0) (kk : ∀ L', wdR L' → zFz 23 (I) L' (pL (((18, 0), 1) :: ((18, 4), 22) :: ((18, 3), 21) :: ((18, 2), 20) :: ((18, 1), 19) :: l)) → Q none (I) L' (pL (((18, 0), 1) :: ((18, 4), 22) :: ((18, 3), 21) :: ((18, 2), 20) :: ((18, 1), 19) :: l)) 23) : zM zm_X9_init 10 4 4820 [.ref 18, .ref 1] I L (pL l) 19 Q := by
  refine zM_of (lv0 := [some (.ref 18), some (.ref 1), none, none]) (by decide +kernel) (Nat.le_of_ble_eq_true rfl) rfl ?_
  have h19 := hF
  refine z_aload_n dX9_init_0 rfl ?_
  refine z_objInit dX9_init_1 zl_X9_3 (Nat.le_of_ble_eq_true rfl) ⟨(Nat.le_of_ble_eq_true rfl), (Nat.le_of_ble_eq_true rfl)⟩ ?_
  refine z_aload_n dX9_init_4 rfl ?_
  refine z_bipush (v := 17) dX9_init_5 (by decide) ?_
  refine z_newL (N := 17) dX9_init_7 zz_long (by decide) rfl (by decide) (by decide) (by decide) hF (Nat.le_of_ble_eq_true rfl) (Nat.le_of_ble_eq_true rfl) ?_
  show zW _ _ _ _ _ _ _ _ _ _ _ 20 1 17
  have hF : zFz 20 _ _ _ := zFz_le hF (Nat.le_succ _)
  refine z_putPl dX9_init_9 zf_X9_11 (by decide) rfl (Or.inr ⟨rfl, rfl, rfl⟩) (fun _ _ _ _ _ => rfl) (fun _ => rfl) (fun _ => rfl) ?_
  have hF := zFz_put (a := 18) (k := 1) (b := 19) hF (by decide)
  refine z_aload_n dX9_init_12 rfl ?_
  refine z_sipush (v := 1601) dX9_init_13 (by decide) ?_
  refine z_newI (N := 1601) dX9_init_16 zz_int (by decide) rfl (by decide) (by decide) (by decide) hF (Nat.le_of_ble_eq_true rfl) (Nat.le_of_ble_eq_true rfl) ?_
  show zW _ _ _ _ _ _ _ _ _ _ _ 21 2 1618
  have hF : zFz 21 _ _ _ := zFz_le hF (Nat.le_succ _)
  refine z_putPl dX9_init_18 zf_X9_19 (by decide) rfl (Or.inr ⟨rfl, rfl, rfl⟩) (fun _ _ _ _ _ => rfl) (fun _ => rfl) (fun _ => rfl) ?_
  have hF := zFz_put (a := 18) (k := 2) (b := 20) hF (by decide)
  refine z_aload_n dX9_init_21 rfl ?_
  refine z_sipush (v := 1601) dX9_init_22 (by decide) ?_
  refine z_newI (N := 1601) dX9_init_25 zz_int (by decide) rfl (by decide) (by decide) (by decide) hF (Nat.le_of_ble_eq_true rfl) (Nat.le_of_ble_eq_true rfl) ?_
  show zW _ _ _ _ _ _ _ _ _ _ _ 22 3 3219
  have hF : zFz 22 _ _ _ := zFz_le hF (Nat.le_succ _)
  refine z_putPl dX9_init_27 zf_X9_23 (by decide) rfl (Or.inr ⟨rfl, rfl, rfl⟩) (fun _ _ _ _ _ => rfl) (fun _ => rfl) (fun _ => rfl) ?_
  have hF := zFz_put (a := 18) (k := 3) (b := 21) hF (by decide)
  refine z_aload_n dX9_init_30 rfl ?_
  refine z_sipush (v := 1601) dX9_init_31 (by decide) ?_
  refine z_newL (N := 1601) dX9_init_34 zz_long (by decide) rfl (by decide) (by decide) (by decide) hF (Nat.le_of_ble_eq_true rfl) (Nat.le_of_ble_eq_true rfl) ?_
  show zW _ _ _ _ _ _ _ _ _ _ _ 23 4 4820
  have hF : zFz 23 _ _ _ := zFz_le hF (Nat.le_succ _)
  refine z_putPl dX9_init_36 zf_X9_26 (by decide) rfl (Or.inr ⟨rfl, rfl, rfl⟩) (fun _ _ _ _ _ => rfl) (fun _ => rfl) (fun _ => rfl) ?_
  have hF := zFz_put (a := 18) (k := 4) (b := 22) hF (by decide)
  refine z_aload_n dX9_init_39 rfl ?_
  refine z_iconst (v := 0) dX9_init_40 (by decide) ?_
  refine z_putI0 (v := 0) dX9_init_41 zf_X9_29 (by decide) rfl (Or.inl rfl) (fun _ _ _ _ _ => rfl) (by decide) (by decide) (hI 5) ?_
  refine z_aload_n dX9_init_44 rfl ?_
  refine z_iconst (v := 0) dX9_init_45 (by decide) ?_
  refine z_putI0 (v := 0) dX9_init_46 zf_X9_33 (by decide) rfl (Or.inl rfl) (fun _ _ _ _ _ => rfl) (by decide) (by decide) (hI 6) ?_
  refine z_aload_n dX9_init_49 rfl ?_
  refine z_aload_n dX9_init_50 rfl ?_
  refine z_putPl dX9_init_51 zf_X9_36 (by decide) rfl (Or.inr ⟨rfl, rfl, rfl⟩) (fun _ _ _ _ _ => rfl) (fun _ => rfl) (fun _ => rfl) ?_
  have hF := zFz_put (a := 18) (k := 0) (b := 1) hF (by decide)
  refine z_iconst (v := 0) dX9_init_54 (by decide) ?_
  refine z_istore_n (lv2 := [some (.ref 18), some (.ref 1), some (.int 0), none]) dX9_init_55 (by decide) rfl rfl ?_
  exact tk_out (L0 := L) rfl (fun L' h1 hw => kk L' hw (fun b hb k => ⟨(hF b hb k).1, by rw [h1 b (by omega)]; exact (hF b hb k).2.1, (hF b hb k).2.2⟩)) 17 0 L rfl (fun _ _ => rfl) (fun j hj => absurd hj (Nat.not_lt_zero j)) (fun j _ _ => (h19 19 (Nat.le_refl _) j).2.1) none
set_option maxRecDepth 20000 in
theorem k_X5_init_17 {Q : zQt} {I : zI} {L : zL} {l : List ((Nat × Nat) × Nat)} (hF : zFz 18 I L (pL l)) (hI : ∀ k, I 17 k = 0) (kk : ∀ L', wdR L' → zFz 23 (zuI (zuI I 17 1 (-1)) 17 8 275) L' (pL (((17, 4), 3) :: ((17, 3), 5) :: ((17, 2), 18) :: ((18, 0), 1) :: ((18, 4), 22) :: ((18, 3), 21) :: ((18, 2), 20) :: ((18, 1), 19) :: l)) → Q none (zuI (zuI I 17 1 (-1)) 17 8 275) L' (pL (((17, 4), 3) :: ((17, 3), 5) :: ((17, 2), 18) :: ((18, 0), 1) :: ((18, 4), 22) :: ((18, 3), 21) :: ((18, 2), 20) :: ((18, 1), 19) :: l)) 23) : zM zm_X5_init 11 5 4827 [.ref 17, .ref 1, .ref 5, .ref 3] I L (pL l) 18 Q := by
  refine zM_of (lv0 := [some (.ref 17), some (.ref 1), some (.ref 5), some (.ref 3)]) (by decide +kernel) (Nat.le_of_ble_eq_true rfl) rfl ?_
  refine z_aload_n dX5_init_0 rfl ?_
  refine z_objInit dX5_init_1 zl_X5_3 (Nat.le_of_ble_eq_true rfl) ⟨(Nat.le_of_ble_eq_true rfl), (Nat.le_of_ble_eq_true rfl)⟩ ?_
  refine z_aload_n dX5_init_4 rfl ?_
  refine z_iconst (v := 0) dX5_init_5 (by decide) ?_
  refine z_putI0 (v := 0) dX5_init_6 zf_X5_9 (by decide) rfl (Or.inl rfl) (fun _ _ _ _ _ => rfl) (by decide) (by decide) (hI 0) ?_
  refine z_aload_n dX5_init_9 rfl ?_
  refine z_iconst (v := (-1)) dX5_init_10 (by decide) ?_
  refine z_putI (v := (-1)) dX5_init_11 zf_X5_15 (by decide) rfl (Or.inl rfl) (fun _ _ _ _ _ => rfl) (by decide) (by decide) ?_
  have hF := zFz_I (a := 17) (k := 1) (v := (-1)) hF (by decide)
  refine z_aload_n dX5_init_14 rfl ?_
  refine z_iconst (v := 0) dX5_init_15 (by decide) ?_
  refine z_putI0 (v := 0) dX5_init_16 zf_X5_18 (by decide) rfl (Or.inl rfl) (fun _ _ _ _ _ => rfl) (by decide) (by decide) ((zuI_o (by decide)).trans (hI 5)) ?_
  refine z_aload_n dX5_init_19 rfl ?_
  refine z_iconst (v := 0) dX5_init_20 (by decide) ?_
  refine z_putI0 (v := 0) dX5_init_21 zf_X5_21 (by decide) rfl (Or.inl rfl) (fun _ _ _ _ _ => rfl) (by decide) (by decide) ((zuI_o (by decide)).trans (hI 6)) ?_
  refine z_aload_n dX5_init_24 rfl ?_
  refine z_iconst (v := 0) dX5_init_25 (by decide) ?_
  refine z_putI0 (v := 0) dX5_init_26 zf_X5_24 (by decide) rfl (Or.inl rfl) (fun _ _ _ _ _ => rfl) (by decide) (by decide) ((zuI_o (by decide)).trans (hI 7)) ?_
  refine z_aload_n dX5_init_29 rfl ?_
  refine z_sipush (v := 275) dX5_init_30 (by decide) ?_
  refine z_putI (v := 275) dX5_init_33 zf_X5_29 (by decide) rfl (Or.inl rfl) (fun _ _ _ _ _ => rfl) (by decide) (by decide) ?_
  have hF := zFz_I (a := 17) (k := 8) (v := 275) hF (by decide)
  refine z_aload_n dX5_init_36 rfl ?_
  have hI18 : ∀ k, (zuI (zuI I 17 1 (-1)) 17 8 275) 18 k = 0 := fun k => (hF 18 (Nat.le_refl _) k).1
  refine z_new (c := 8) dX5_init_37 (by decide) zy_X5_32 (by decide) rfl hF (Nat.le_of_ble_eq_true rfl) (Nat.le_of_ble_eq_true rfl) ?_
  show zW _ _ _ _ _ _ _ _ _ _ _ 19 1 7
  have hF : zFz 19 _ _ _ := zFz_le hF (Nat.le_succ _)
  refine z_dup dX5_init_40 rfl ?_
  refine z_aload_n dX5_init_41 rfl ?_
  refine z_callI (As := [.ref 1]) (st := [.ref 18, .ref 17]) dX5_init_42 zl_X5_34 rfl rfl zx_X9_init rfl rfl (Nat.le_of_ble_eq_true rfl) ⟨(Nat.le_of_ble_eq_true rfl), (Nat.le_of_ble_eq_true rfl)⟩ ⟨(Nat.le_of_ble_eq_true rfl), (Nat.le_of_ble_eq_true rfl)⟩ (k_X9_init_18 (Q := (fun v I' L' P' nx' => none = v ∧ zuI (zuI I 17 1 (-1)) 17 8 275 = I' ∧ wdR L' ∧ pL (((18, 0), 1) :: ((18, 4), 22) :: ((18, 3), 21) :: ((18, 2), 20) :: ((18, 1), 19) :: l) = P' ∧ 23 = nx' ∧ zFz 23 (zuI (zuI I 17 1 (-1)) 17 8 275) L' (pL (((18, 0), 1) :: ((18, 4), 22) :: ((18, 3), 21) :: ((18, 2), 20) :: ((18, 1), 19) :: l)))) hF hI18 (fun L9 hw h => ⟨rfl, rfl, hw, rfl, rfl, h⟩)) (fun v1 I1 L1 P1 nx1 q => ?_)
  obtain ⟨rfl, rfl, hw, rfl, rfl, hF⟩ := q
  show zW _ _ _ _ _ _ _ _ _ _ _ 23 5 4827
  refine z_putPl dX5_init_45 zf_X5_37 (by decide) rfl (Or.inr ⟨rfl, rfl, rfl⟩) (fun _ _ _ _ _ => rfl) (fun _ => rfl) (fun _ => rfl) ?_
  have hF := zFz_put (a := 17) (k := 2) (b := 18) hF (by decide)
  refine z_aload_n dX5_init_48 rfl ?_
  refine z_aload_n dX5_init_49 rfl ?_
  refine z_putPl dX5_init_50 zf_X5_41 (by decide) rfl (Or.inl rfl) (fun _ _ _ _ _ => rfl) (fun _ => rfl) (fun _ => rfl) ?_
  have hF := zFz_put (a := 17) (k := 3) (b := 5) hF (by decide)
  refine z_aload_n dX5_init_53 rfl ?_
  refine z_aload_n dX5_init_54 rfl ?_
  refine z_putPl dX5_init_55 zf_X5_45 (by decide) rfl (Or.inl rfl) (fun _ _ _ _ _ => rfl) (fun _ => rfl) (fun _ => rfl) ?_
  have hF := zFz_put (a := 17) (k := 4) (b := 3) hF (by decide)
  exact z_return dX5_init_58 rfl (Nat.le_of_ble_eq_true rfl) (Nat.le_of_ble_eq_true rfl) (kk _ hw hF)
