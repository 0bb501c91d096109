/-! ===== the small constructors ===== -/
set_option maxRecDepth 20000 in
theorem k_X8_init_1 {Q : zQt} {I : zI} {L : zL} {l : List ((Nat × Nat) × Nat)} (hF : zFz 2 I L (pL l)) (hI : ∀ k, I 1 k = 0) (kk : zFz 3 (I) L (pL (((1, 0), 2) :: l)) → Q none (I) L (pL (((1, 0), 2) :: l)) 3) : zM zm_X8_init 1 1 1600 [.ref 1] I L (pL l) 2 Q := by
  refine zM_of (lv0 := [some (.ref 1)]) (by decide +kernel) (Nat.le_of_ble_eq_true rfl) rfl ?_
  refine z_aload_n dX8_init_0 rfl ?_
  refine z_objInit dX8_init_1 zl_X8_3 (Nat.le_of_ble_eq_true rfl) ⟨(Nat.le_of_ble_eq_true rfl), (Nat.le_of_ble_eq_true rfl)⟩ ?_
  refine z_aload_n dX8_init_4 rfl ?_
  refine z_sipush (v := 1600) dX8_init_5 (by decide) ?_
  refine z_newB (N := 1600) dX8_init_8 zz_byte (by decide) rfl (by decide) (by decide) (by decide) hF (Nat.le_of_ble_eq_true rfl) (Nat.le_of_ble_eq_true rfl) ?_
  show zW _ _ _ _ _ _ _ _ _ _ _ 3 1 1600
  have hF : zFz 3 _ _ _ := zFz_le hF (Nat.le_succ _)
  refine z_putPl dX8_init_10 zf_X8_11 (by decide) rfl (Or.inr ⟨rfl, rfl, rfl⟩) (fun _ _ _ _ _ => rfl) (fun _ => rfl) (fun _ => rfl) ?_
  have hF := zFz_put (a := 1) (k := 0) (b := 2) hF (by decide)
  refine z_aload_n dX8_init_13 rfl ?_
  refine z_iconst (v := 0) dX8_init_14 (by decide) ?_
  refine z_putI0 (v := 0) dX8_init_15 zf_X8_15 (by decide) rfl (Or.inl rfl) (fun _ _ _ _ _ => rfl) (by decide) (by decide) (hI 1) ?_
  exact z_return dX8_init_18 rfl (Nat.le_of_ble_eq_true rfl) (Nat.le_of_ble_eq_true rfl) (kk hF)
set_option maxRecDepth 20000 in
theorem k_X0_init_3 {Q : zQt} {I : zI} {L : zL} {l : List ((Nat × Nat) × Nat)} (hF : zFz 4 I L (pL l)) (hI : ∀ k, I 3 k = 0) (kk : zFz 5 (I) L (pL (((3, 0), 4) :: l)) → Q none (I) L (pL (((3, 0), 4) :: l)) 5) : zM zm_X0_init 1 1 600 [.ref 3] I L (pL l) 4 Q := by
  refine zM_of (lv0 := [some (.ref 3)]) (by decide +kernel) (Nat.le_of_ble_eq_true rfl) rfl ?_
  refine z_aload_n dX0_init_0 rfl ?_
  refine z_objInit dX0_init_1 zl_X0_3 (Nat.le_of_ble_eq_true rfl) ⟨(Nat.le_of_ble_eq_true rfl), (Nat.le_of_ble_eq_true rfl)⟩ ?_
  refine z_aload_n dX0_init_4 rfl ?_
  refine z_sipush (v := 600) dX0_init_5 (by decide) ?_
  refine z_newI (N := 600) dX0_init_8 zz_int (by decide) rfl (by decide) (by decide) (by decide) hF (Nat.le_of_ble_eq_true rfl) (Nat.le_of_ble_eq_true rfl) ?_
  show zW _ _ _ _ _ _ _ _ _ _ _ 5 1 600
  have hF : zFz 5 _ _ _ := zFz_le hF (Nat.le_succ _)
  refine z_putPl dX0_init_10 zf_X0_11 (by decide) rfl (Or.inr ⟨rfl, rfl, rfl⟩) (fun _ _ _ _ _ => rfl) (fun _ => rfl) (fun _ => rfl) ?_
  have hF := zFz_put (a := 3) (k := 0) (b := 4) hF (by decide)
  refine z_aload_n dX0_init_13 rfl ?_
  refine z_iconst (v := 0) dX0_init_14 (by decide) ?_
  refine z_putI0 (v := 0) dX0_init_15 zf_X0_15 (by decide) rfl (Or.inl rfl) (fun _ _ _ _ _ => rfl) (by decide) (by decide) (hI 1) ?_
  exact z_return dX0_init_18 rfl (Nat.le_of_ble_eq_true rfl) (Nat.le_of_ble_eq_true rfl) (kk hF)
set_option maxRecDepth 20000 in
theorem k_X0_init_8 {Q : zQt} {I : zI} {L : zL} {l : List ((Nat × Nat) × Nat)} (hF : zFz 9 I L (pL l)) (hI : ∀ k, I 8 k = 0) (kk : zFz 10 (I) L (pL (((8, 0), 9) :: l)) → Q none (I) L (pL (((8, 0), 9) :: l)) 10) : zM zm_X0_init 1 1 600 [.ref 8] I L (pL l) 9 Q := by
  refine zM_of (lv0 := [some (.ref 8)]) (by decide +kernel) (Nat.le_of_ble_eq_true rfl) rfl ?_
  refine z_aload_n dX0_init_0 rfl ?_
  refine z_objInit dX0_init_1 zl_X0_3 (Nat.le_of_ble_eq_true rfl) ⟨(Nat.le_of_ble_eq_true rfl), (Nat.le_of_ble_eq_true rfl)⟩ ?_
  refine z_aload_n dX0_init_4 rfl ?_
  refine z_sipush (v := 600) dX0_init_5 (by decide) ?_
  refine z_newI (N := 600) dX0_init_8 zz_int (by decide) rfl (by decide) (by decide) (by decide) hF (Nat.le_of_ble_eq_true rfl) (Nat.le_of_ble_eq_true rfl) ?_
  show zW _ _ _ _ _ _ _ _ _ _ _ 10 1 600
  have hF : zFz 10 _ _ _ := zFz_le hF (Nat.le_succ _)
  refine z_putPl dX0_init_10 zf_X0_11 (by decide) rfl (Or.inr ⟨rfl, rfl, rfl⟩) (fun _ _ _ _ _ => rfl) (fun _ => rfl) (fun _ => rfl) ?_
  have hF := zFz_put (a := 8) (k := 0) (b := 9) hF (by decide)
  refine z_aload_n dX0_init_13 rfl ?_
  refine z_iconst (v := 0) dX0_init_14 (by decide) ?_
  refine z_putI0 (v := 0) dX0_init_15 zf_X0_15 (by decide) rfl (Or.inl rfl) (fun _ _ _ _ _ => rfl) (by decide) (by decide) (hI 1) ?_
  exact z_return dX0_init_18 rfl (Nat.le_of_ble_eq_true rfl) (Nat.le_of_ble_eq_true rfl) (kk hF)
set_option maxRecDepth 20000 in
theorem k_X0_init_14 {Q : zQt} {I : zI} {L : zL} {l : List ((Nat × Nat) × Nat)} (hF : zFz 15 I L (pL l)) (hI : ∀ k, I 14 k = 0) (kk : zFz 16 (I) L (pL (((14, 0), 15) :: l)) → Q none (I) L (pL (((14, 0), 15) :: l)) 16) : zM zm_X0_init 1 1 600 [.ref 14] I L (pL l) 15 Q := by
  refine zM_of (lv0 := [some (.ref 14)]) (by decide +kernel) (Nat.le_of_ble_eq_true rfl) rfl ?_
  refine z_aload_n dX0_init_0 rfl ?_
  refine z_objInit dX0_init_1 zl_X0_3 (Nat.le_of_ble_eq_true rfl) ⟨(Nat.le_of_ble_eq_true rfl), (Nat.le_of_ble_eq_true rfl)⟩ ?_
  refine z_aload_n dX0_init_4 rfl ?_
  refine z_sipush (v := 600) dX0_init_5 (by decide) ?_
  refine z_newI (N := 600) dX0_init_8 zz_int (by decide) rfl (by decide) (by decide) (by decide) hF (Nat.le_of_ble_eq_true rfl) (Nat.le_of_ble_eq_true rfl) ?_
  show zW _ _ _ _ _ _ _ _ _ _ _ 16 1 600
  have hF : zFz 16 _ _ _ := zFz_le hF (Nat.le_succ _)
  refine z_putPl dX0_init_10 zf_X0_11 (by decide) rfl (Or.inr ⟨rfl, rfl, rfl⟩) (fun _ _ _ _ _ => rfl) (fun _ => rfl) (fun _ => rfl) ?_
  have hF := zFz_put (a := 14) (k := 0) (b := 15) hF (by decide)
  refine z_aload_n dX0_init_13 rfl ?_
  refine z_iconst (v := 0) dX0_init_14 (by decide) ?_
  refine z_putI0 (v := 0) dX0_init_15 zf_X0_15 (by decide) rfl (Or.inl rfl) (fun _ _ _ _ _ => rfl) (by decide) (by decide) (hI 1) ?_
  exact z_return dX0_init_18 rfl (Nat.le_of_ble_eq_true rfl) (Nat.le_of_ble_eq_true rfl) (kk hF)
set_option maxRecDepth 20000 in
theorem k_X2_init_5 {Q : zQt} {I : zI} {L : zL} {l : List ((Nat × Nat) × Nat)} (hF : zFz 6 I L (pL l)) (hI : ∀ k, I 5 k = 0) (kk : zFz 11 (I) L (pL (((5, 11), 10) :: ((5, 10), 8) :: ((8, 0), 9) :: ((5, 9), 7) :: ((5, 8), 6) :: l)) → Q none (I) L (pL (((5, 11), 10) :: ((5, 10), 8) :: ((8, 0), 9) :: ((5, 9), 7) :: ((5, 8), 6) :: l)) 11) : zM zm_X2_init 2 5 625 [.ref 5] I L (pL l) 6 Q := by
  refine zM_of (lv0 := [some (.ref 5)]) (by decide +kernel) (Nat.le_of_ble_eq_true rfl) rfl ?_
  refine z_aload_n dX2_init_0 rfl ?_
  refine z_objInit dX2_init_1 zl_X2_3 (Nat.le_of_ble_eq_true rfl) ⟨(Nat.le_of_ble_eq_true rfl), (Nat.le_of_ble_eq_true rfl)⟩ ?_
  refine z_aload_n dX2_init_4 rfl ?_
  refine z_bipush (v := 8) dX2_init_5 (by decide) ?_
  refine z_newL (N := 8) dX2_init_7 zz_long (by decide) rfl (by decide) (by decide) (by decide) hF (Nat.le_of_ble_eq_true rfl) (Nat.le_of_ble_eq_true rfl) ?_
  show zW _ _ _ _ _ _ _ _ _ _ _ 7 1 8
  have hF : zFz 7 _ _ _ := zFz_le hF (Nat.le_succ _)
  refine z_putPl dX2_init_9 zf_X2_11 (by decide) rfl (Or.inr ⟨rfl, rfl, rfl⟩) (fun _ _ _ _ _ => rfl) (fun _ => rfl) (fun _ => rfl) ?_
  have hF := zFz_put (a := 5) (k := 8) (b := 6) hF (by decide)
  refine z_aload_n dX2_init_12 rfl ?_
  refine z_bipush (v := 8) dX2_init_13 (by decide) ?_
  refine z_newI (N := 8) dX2_init_15 zz_int (by decide) rfl (by decide) (by decide) (by decide) hF (Nat.le_of_ble_eq_true rfl) (Nat.le_of_ble_eq_true rfl) ?_
  show zW _ _ _ _ _ _ _ _ _ _ _ 8 2 16
  have hF : zFz 8 _ _ _ := zFz_le hF (Nat.le_succ _)
  refine z_putPl dX2_init_17 zf_X2_15 (by decide) rfl (Or.inr ⟨rfl, rfl, rfl⟩) (fun _ _ _ _ _ => rfl) (fun _ => rfl) (fun _ => rfl) ?_
  have hF := zFz_put (a := 5) (k := 9) (b := 7) hF (by decide)
  refine z_aload_n dX2_init_20 rfl ?_
  have hI8 : ∀ k, (I) 8 k = 0 := fun k => (hF 8 (Nat.le_refl _) k).1
  refine z_new (c := 0) dX2_init_21 (by decide) zy_X2_19 (by decide) rfl hF (Nat.le_of_ble_eq_true rfl) (Nat.le_of_ble_eq_true rfl) ?_
  show zW _ _ _ _ _ _ _ _ _ _ _ 9 3 18
  have hF : zFz 9 _ _ _ := zFz_le hF (Nat.le_succ _)
  refine z_dup dX2_init_24 rfl ?_
  refine z_callIN (As := []) (st := [.ref 8, .ref 5]) dX2_init_25 zl_X2_21 rfl rfl zx_X0_init rfl rfl (Nat.le_of_ble_eq_true rfl) ⟨(Nat.le_of_ble_eq_true rfl), (Nat.le_of_ble_eq_true rfl)⟩ ⟨(Nat.le_of_ble_eq_true rfl), (Nat.le_of_ble_eq_true rfl)⟩ (k_X0_init_8 (Q := (fun v I' L' P' nx' => none = v ∧ I = I' ∧ L = L' ∧ pL (((8, 0), 9) :: ((5, 9), 7) :: ((5, 8), 6) :: l) = P' ∧ 10 = nx' ∧ zFz 10 (I) L (pL (((8, 0), 9) :: ((5, 9), 7) :: ((5, 8), 6) :: l)))) hF hI8 (fun h => ⟨rfl, rfl, rfl, rfl, rfl, h⟩)) (fun v1 I1 L1 P1 nx1 q => ?_)
  obtain ⟨rfl, rfl, rfl, rfl, rfl, hF⟩ := q
  show zW _ _ _ _ _ _ _ _ _ _ _ 10 4 618
  refine z_putPl dX2_init_28 zf_X2_22 (by decide) rfl (Or.inr ⟨rfl, rfl, rfl⟩) (fun _ _ _ _ _ => rfl) (fun _ => rfl) (fun _ => rfl) ?_
  have hF := zFz_put (a := 5) (k := 10) (b := 8) hF (by decide)
  refine z_aload_n dX2_init_31 rfl ?_
  refine z_bipush (v := 7) dX2_init_32 (by decide) ?_
  refine z_newI (N := 7) dX2_init_34 zz_int (by decide) rfl (by decide) (by decide) (by decide) hF (Nat.le_of_ble_eq_true rfl) (Nat.le_of_ble_eq_true rfl) ?_
  show zW _ _ _ _ _ _ _ _ _ _ _ 11 5 625
  have hF : zFz 11 _ _ _ := zFz_le hF (Nat.le_succ _)
  refine z_putPl dX2_init_36 zf_X2_26 (by decide) rfl (Or.inr ⟨rfl, rfl, rfl⟩) (fun _ _ _ _ _ => rfl) (fun _ => rfl) (fun _ => rfl) ?_
  have hF := zFz_put (a := 5) (k := 11) (b := 10) hF (by decide)
  exact z_return dX2_init_39 rfl (Nat.le_of_ble_eq_true rfl) (Nat.le_of_ble_eq_true rfl) (kk hF)
set_option maxRecDepth 20000 in
theorem k_X2_init_11 {Q : zQt} {I : zI} {L : zL} {l : List ((Nat × Nat) × Nat)} (hF : zFz 12 I L (pL l)) (hI : ∀ k, I 11 k = 0) (kk : zFz 17 (I) L (pL (((11, 11), 16) :: ((11, 10), 14) :: ((14, 0), 15) :: ((11, 9), 13) :: ((11, 8), 12) :: l)) → Q none (I) L (pL (((11, 11), 16) :: ((11, 10), 14) :: ((14, 0), 15) :: ((11, 9), 13) :: ((11, 8), 12) :: l)) 17) : zM zm_X2_init 2 5 625 [.ref 11] I L (pL l) 12 Q := by
  refine zM_of (lv0 := [some (.ref 11)]) (by decide +kernel) (Nat.le_of_ble_eq_true rfl) rfl ?_
  refine z_aload_n dX2_init_0 rfl ?_
  refine z_objInit dX2_init_1 zl_X2_3 (Nat.le_of_ble_eq_true rfl) ⟨(Nat.le_of_ble_eq_true rfl), (Nat.le_of_ble_eq_true rfl)⟩ ?_
  refine z_aload_n dX2_init_4 rfl ?_
  refine z_bipush (v := 8) dX2_init_5 (by decide) ?_
  refine z_newL (N := 8) dX2_init_7 zz_long (by decide) rfl (by decide) (by decide) (by decide) hF (Nat.le_of_ble_eq_true rfl) (Nat.le_of_ble_eq_true rfl) ?_
  show zW _ _ _ _ _ _ _ _ _ _ _ 13 1 8
  have hF : zFz 13 _ _ _ := zFz_le hF (Nat.le_succ _)
  refine z_putPl dX2_init_9 zf_X2_11 (by decide) rfl (Or.inr ⟨rfl, rfl, rfl⟩) (fun _ _ _ _ _ => rfl) (fun _ => rfl) (fun _ => rfl) ?_
  have hF := zFz_put (a := 11) (k := 8) (b := 12) hF (by decide)
  refine z_aload_n dX2_init_12 rfl ?_
  refine z_bipush (v := 8) dX2_init_13 (by decide) ?_
  refine z_newI (N := 8) dX2_init_15 zz_int (by decide) rfl (by decide) (by decide) (by decide) hF (Nat.le_of_ble_eq_true rfl) (Nat.le_of_ble_eq_true rfl) ?_
  show zW _ _ _ _ _ _ _ _ _ _ _ 14 2 16
  have hF : zFz 14 _ _ _ := zFz_le hF (Nat.le_succ _)
  refine z_putPl dX2_init_17 zf_X2_15 (by decide) rfl (Or.inr ⟨rfl, rfl, rfl⟩) (fun _ _ _ _ _ => rfl) (fun _ => rfl) (fun _ => rfl) ?_
  have hF := zFz_put (a := 11) (k := 9) (b := 13) hF (by decide)
  refine z_aload_n dX2_init_20 rfl ?_
  have hI14 : ∀ k, (I) 14 k = 0 := fun k => (hF 14 (Nat.le_refl _) k).1
  refine z_new (c := 0) dX2_init_21 (by decide) zy_X2_19 (by decide) rfl hF (Nat.le_of_ble_eq_true rfl) (Nat.le_of_ble_eq_true rfl) ?_
  show zW _ _ _ _ _ _ _ _ _ _ _ 15 3 18
  have hF : zFz 15 _ _ _ := zFz_le hF (Nat.le_succ _)
  refine z_dup dX2_init_24 rfl ?_
  refine z_callIN (As := []) (st := [.ref 14, .ref 11]) dX2_init_25 zl_X2_21 rfl rfl zx_X0_init rfl rfl (Nat.le_of_ble_eq_true rfl) ⟨(Nat.le_of_ble_eq_true rfl), (Nat.le_of_ble_eq_true rfl)⟩ ⟨(Nat.le_of_ble_eq_true rfl), (Nat.le_of_ble_eq_true rfl)⟩ (k_X0_init_14 (Q := (fun v I' L' P' nx' => none = v ∧ I = I' ∧ L = L' ∧ pL (((14, 0), 15) :: ((11, 9), 13) :: ((11, 8), 12) :: l) = P' ∧ 16 = nx' ∧ zFz 16 (I) L (pL (((14, 0), 15) :: ((11, 9), 13) :: ((11, 8), 12) :: l)))) hF hI14 (fun h => ⟨rfl, rfl, rfl, rfl, rfl, h⟩)) (fun v1 I1 L1 P1 nx1 q => ?_)
  obtain ⟨rfl, rfl, rfl, rfl, rfl, hF⟩ := q
  show zW _ _ _ _ _ _ _ _ _ _ _ 16 4 618
  refine z_putPl dX2_init_28 zf_X2_22 (by decide) rfl (Or.inr ⟨rfl, rfl, rfl⟩) (fun _ _ _ _ _ => rfl) (fun _ => rfl) (fun _ => rfl) ?_
  have hF := zFz_put (a := 11) (k := 10) (b := 14) hF (by decide)
  refine z_aload_n dX2_init_31 rfl ?_
  refine z_bipush (v := 7) dX2_init_32 (by decide) ?_
  refine z_newI (N := 7) dX2_init_34 zz_int (by decide) rfl (by decide) (by decide) (by decide) hF (Nat.le_of_ble_eq_true rfl) (Nat.le_of_ble_eq_true rfl) ?_
  show zW _ _ _ _ _ _ _ _ _ _ _ 17 5 625
  have hF : zFz 17 _ _ _ := zFz_le hF (Nat.le_succ _)
  refine z_putPl dX2_init_36 zf_X2_26 (by decide) rfl (Or.inr ⟨rfl, rfl, rfl⟩) (fun _ _ _ _ _ => rfl) (fun _ => rfl) (fun _ => rfl) ?_
  have hF := zFz_put (a := 11) (k := 11) (b := 16) hF (by decide)
  exact z_return dX2_init_39 rfl (Nat.le_of_ble_eq_true rfl) (Nat.le_of_ble_eq_true rfl) (kk hF)
set_option maxRecDepth 20000 in
theorem k_X4_init_23 {Q : zQt} {I : zI} {L : zL} {l : List ((Nat × Nat) × Nat)} (hF : zFz 24 I L (pL l)) (hI : ∀ k, I 23 k = 0) (kk : zFz 73 (I) L (pL (((23, 4), 72) :: ((23, 3), 71) :: ((23, 2), 70) :: ((23, 1), 69) :: ((23, 0), 24) :: (zrows 24 44 ++ l))) → Q none (I) L (pL (((23, 4), 72) :: ((23, 3), 71) :: ((23, 2), 70) :: ((23, 1), 69) :: ((23, 0), 24) :: (zrows 24 44 ++ l))) 73) : zM zm_X4_init 1 49 12332 [.ref 23] I L (pL l) 24 Q := by
  refine zM_of (lv0 := [some (.ref 23)]) (by decide +kernel) (Nat.le_of_ble_eq_true rfl) rfl ?_
  refine z_aload_n dX4_init_0 rfl ?_
  refine z_objInit dX4_init_1 zl_X4_3 (Nat.le_of_ble_eq_true rfl) ⟨(Nat.le_of_ble_eq_true rfl), (Nat.le_of_ble_eq_true rfl)⟩ ?_
  refine z_aload_n dX4_init_4 rfl ?_
  refine z_bipush (v := 44) dX4_init_5 (by decide) ?_
  refine z_sipush (v := 256) dX4_init_7 (by decide) ?_
  refine z_multiP (N := 44) (M := 256) dX4_init_10 zy_X4_13 zz_int (by decide) rfl (by decide +kernel) (by decide) (by decide) (by decide) (by decide) (by decide) (by decide) hF (Nat.le_of_ble_eq_true rfl) (Nat.le_of_ble_eq_true rfl) ?_
  have hF := zFz_rows (N := 44) hF
  show zW _ _ _ _ _ _ _ _ _ _ _ 69 45 11308
  have hF : zFz 69 _ _ _ := hF
  refine z_putPl dX4_init_14 zf_X4_15 (by decide) rfl (Or.inr ⟨rfl, rfl, rfl⟩) (fun _ _ _ _ _ => rfl) (fun _ => rfl) (fun _ => rfl) ?_
  have hF := zFz_put (a := 23) (k := 0) (b := 24) hF (by decide)
  refine z_aload_n dX4_init_17 rfl ?_
  refine z_sipush (v := 256) dX4_init_18 (by decide) ?_
  refine z_newI (N := 256) dX4_init_21 zz_int (by decide) rfl (by decide) (by decide) (by decide) hF (Nat.le_of_ble_eq_true rfl) (Nat.le_of_ble_eq_true rfl) ?_
  show zW _ _ _ _ _ _ _ _ _ _ _ 70 46 11564
  have hF : zFz 70 _ _ _ := zFz_le hF (Nat.le_succ _)
  refine z_putPl dX4_init_23 zf_X4_18 (by decide) rfl (Or.inr ⟨rfl, rfl, rfl⟩) (fun _ _ _ _ _ => rfl) (fun _ => rfl) (fun _ => rfl) ?_
  have hF := zFz_put (a := 23) (k := 1) (b := 69) hF (by decide)
  refine z_aload_n dX4_init_26 rfl ?_
  refine z_sipush (v := 256) dX4_init_27 (by decide) ?_
  refine z_newI (N := 256) dX4_init_30 zz_int (by decide) rfl (by decide) (by decide) (by decide) hF (Nat.le_of_ble_eq_true rfl) (Nat.le_of_ble_eq_true rfl) ?_
  show zW _ _ _ _ _ _ _ _ _ _ _ 71 47 11820
  have hF : zFz 71 _ _ _ := zFz_le hF (Nat.le_succ _)
  refine z_putPl dX4_init_32 zf_X4_22 (by decide) rfl (Or.inr ⟨rfl, rfl, rfl⟩) (fun _ _ _ _ _ => rfl) (fun _ => rfl) (fun _ => rfl) ?_
  have hF := zFz_put (a := 23) (k := 2) (b := 70) hF (by decide)
  refine z_aload_n dX4_init_35 rfl ?_
  refine z_sipush (v := 256) dX4_init_36 (by decide) ?_
  refine z_newI (N := 256) dX4_init_39 zz_int (by decide) rfl (by decide) (by decide) (by decide) hF (Nat.le_of_ble_eq_true rfl) (Nat.le_of_ble_eq_true rfl) ?_
  show zW _ _ _ _ _ _ _ _ _ _ _ 72 48 12076
  have hF : zFz 72 _ _ _ := zFz_le hF (Nat.le_succ _)
  refine z_putPl dX4_init_41 zf_X4_25 (by decide) rfl (Or.inr ⟨rfl, rfl, rfl⟩) (fun _ _ _ _ _ => rfl) (fun _ => rfl) (fun _ => rfl) ?_
  have hF := zFz_put (a := 23) (k := 3) (b := 71) hF (by decide)
  refine z_aload_n dX4_init_44 rfl ?_
  refine z_sipush (v := 256) dX4_init_45 (by decide) ?_
  refine z_newI (N := 256) dX4_init_48 zz_int (by decide) rfl (by decide) (by decide) (by decide) hF (Nat.le_of_ble_eq_true rfl) (Nat.le_of_ble_eq_true rfl) ?_
  show zW _ _ _ _ _ _ _ _ _ _ _ 73 49 12332
  have hF : zFz 73 _ _ _ := zFz_le hF (Nat.le_succ _)
  refine z_putPl dX4_init_50 zf_X4_28 (by decide) rfl (Or.inr ⟨rfl, rfl, rfl⟩) (fun _ _ _ _ _ => rfl) (fun _ => rfl) (fun _ => rfl) ?_
  have hF := zFz_put (a := 23) (k := 4) (b := 72) hF (by decide)
  refine z_aload_n dX4_init_53 rfl ?_
  refine z_iconst (v := 0) dX4_init_54 (by decide) ?_
  refine z_putI0 (v := 0) dX4_init_55 zf_X4_31 (by decide) rfl (Or.inl rfl) (fun _ _ _ _ _ => rfl) (by decide) (by decide) (hI 5) ?_
  exact z_return dX4_init_58 rfl (Nat.le_of_ble_eq_true rfl) (Nat.le_of_ble_eq_true rfl) (kk hF)
set_option maxRecDepth 20000 in
theorem k_X10_init_74 {Q : zQt} {I : zI} {L : zL} {l : List ((Nat × Nat) × Nat)} (hF : zFz 75 I L (pL l)) (hI : ∀ k, I 74 k = 0) (kk : zFz 85 (I) L (pL (((74, 1), 84) :: ((74, 0), 75) :: (zrows 75 8 ++ l))) → Q none (I) L (pL (((74, 1), 84) :: ((74, 0), 75) :: (zrows 75 8 ++ l))) 85) : zM zm_X10_init 1 10 2568 [.ref 74] I L (pL l) 75 Q := by
  refine zM_of (lv0 := [some (.ref 74)]) (by decide +kernel) (Nat.le_of_ble_eq_true rfl) rfl ?_
  refine z_aload_n dX10_init_0 rfl ?_
  refine z_objInit dX10_init_1 zl_X10_3 (Nat.le_of_ble_eq_true rfl) ⟨(Nat.le_of_ble_eq_true rfl), (Nat.le_of_ble_eq_true rfl)⟩ ?_
  refine z_aload_n dX10_init_4 rfl ?_
  refine z_bipush (v := 8) dX10_init_5 (by decide) ?_
  refine z_sipush (v := 256) dX10_init_7 (by decide) ?_
  refine z_multiP (N := 8) (M := 256) dX10_init_10 zy_X10_11 zz_int (by decide) rfl (by decide +kernel) (by decide) (by decide) (by decide) (by decide) (by decide) (by decide) hF (Nat.le_of_ble_eq_true rfl) (Nat.le_of_ble_eq_true rfl) ?_
  have hF := zFz_rows (N := 8) hF
  show zW _ _ _ _ _ _ _ _ _ _ _ 84 9 2056
  have hF : zFz 84 _ _ _ := hF
  refine z_putPl dX10_init_14 zf_X10_13 (by decide) rfl (Or.inr ⟨rfl, rfl, rfl⟩) (fun _ _ _ _ _ => rfl) (fun _ => rfl) (fun _ => rfl) ?_
  have hF := zFz_put (a := 74) (k := 0) (b := 75) hF (by decide)
  refine z_aload_n dX10_init_17 rfl ?_
  refine z_sipush (v := 512) dX10_init_18 (by decide) ?_
  refine z_newI (N := 512) dX10_init_21 zz_int (by decide) rfl (by decide) (by decide) (by decide) hF (Nat.le_of_ble_eq_true rfl) (Nat.le_of_ble_eq_true rfl) ?_
  show zW _ _ _ _ _ _ _ _ _ _ _ 85 10 2568
  have hF : zFz 85 _ _ _ := zFz_le hF (Nat.le_succ _)
  refine z_putPl dX10_init_23 zf_X10_18 (by decide) rfl (Or.inr ⟨rfl, rfl, rfl⟩) (fun _ _ _ _ _ => rfl) (fun _ => rfl) (fun _ => rfl) ?_
  have hF := zFz_put (a := 74) (k := 1) (b := 84) hF (by decide)
  exact z_return dX10_init_26 rfl (Nat.le_of_ble_eq_true rfl) (Nat.le_of_ble_eq_true rfl) (kk hF)
set_option maxRecDepth 20000 in
theorem k_X10_init_108 {Q : zQt} {I : zI} {L : zL} {l : List ((Nat × Nat) × Nat)} (hF : zFz 109 I L (pL l)) (hI : ∀ k, I 108 k = 0) (kk : zFz 119 (I) L (pL (((108, 1), 118) :: ((108, 0), 109) :: (zrows 109 8 ++ l))) → Q none (I) L (pL (((108, 1), 118) :: ((108, 0), 109) :: (zrows 109 8 ++ l))) 119) : zM zm_X10_init 1 10 2568 [.ref 108] I L (pL l) 109 Q := by
  refine zM_of (lv0 := [some (.ref 108)]) (by decide +kernel) (Nat.le_of_ble_eq_true rfl) rfl ?_
  refine z_aload_n dX10_init_0 rfl ?_
  refine z_objInit dX10_init_1 zl_X10_3 (Nat.le_of_ble_eq_true rfl) ⟨(Nat.le_of_ble_eq_true rfl), (Nat.le_of_ble_eq_true rfl)⟩ ?_
  refine z_aload_n dX10_init_4 rfl ?_
  refine z_bipush (v := 8) dX10_init_5 (by decide) ?_
  refine z_sipush (v := 256) dX10_init_7 (by decide) ?_
  refine z_multiP (N := 8) (M := 256) dX10_init_10 zy_X10_11 zz_int (by decide) rfl (by decide +kernel) (by decide) (by decide) (by decide) (by decide) (by decide) (by decide) hF (Nat.le_of_ble_eq_true rfl) (Nat.le_of_ble_eq_true rfl) ?_
  have hF := zFz_rows (N := 8) hF
  show zW _ _ _ _ _ _ _ _ _ _ _ 118 9 2056
  have hF : zFz 118 _ _ _ := hF
  refine z_putPl dX10_init_14 zf_X10_13 (by decide) rfl (Or.inr ⟨rfl, rfl, rfl⟩) (fun _ _ _ _ _ => rfl) (fun _ => rfl) (fun _ => rfl) ?_
  have hF := zFz_put (a := 108) (k := 0) (b := 109) hF (by decide)
  refine z_aload_n dX10_init_17 rfl ?_
  refine z_sipush (v := 512) dX10_init_18 (by decide) ?_
  refine z_newI (N := 512) dX10_init_21 zz_int (by decide) rfl (by decide) (by decide) (by decide) hF (Nat.le_of_ble_eq_true rfl) (Nat.le_of_ble_eq_true rfl) ?_
  show zW _ _ _ _ _ _ _ _ _ _ _ 119 10 2568
  have hF : zFz 119 _ _ _ := zFz_le hF (Nat.le_succ _)
  refine z_putPl dX10_init_23 zf_X10_18 (by decide) rfl (Or.inr ⟨rfl, rfl, rfl⟩) (fun _ _ _ _ _ => rfl) (fun _ => rfl) (fun _ => rfl) ?_
  have hF := zFz_put (a := 108) (k := 1) (b := 118) hF (by decide)
  exact z_return dX10_init_26 rfl (Nat.le_of_ble_eq_true rfl) (Nat.le_of_ble_eq_true rfl) (kk hF)
set_option maxRecDepth 20000 in
theorem k_X10_init_122 {Q : zQt} {I : zI} {L : zL} {l : List ((Nat × Nat) × Nat)} (hF : zFz 123 I L (pL l)) (hI : ∀ k, I 122 k = 0) (kk : zFz 133 (I) L (pL (((122, 1), 132) :: ((122, 0), 123) :: (zrows 123 8 ++ l))) → Q none (I) L (pL (((122, 1), 132) :: ((122, 0), 123) :: (zrows 123 8 ++ l))) 133) : zM zm_X10_init 1 10 2568 [.ref 122] I L (pL l) 123 Q := by
  refine zM_of (lv0 := [some (.ref 122)]) (by decide +kernel) (Nat.le_of_ble_eq_true rfl) rfl ?_
  refine z_aload_n dX10_init_0 rfl ?_
  refine z_objInit dX10_init_1 zl_X10_3 (Nat.le_of_ble_eq_true rfl) ⟨(Nat.le_of_ble_eq_true rfl), (Nat.le_of_ble_eq_true rfl)⟩ ?_
  refine z_aload_n dX10_init_4 rfl ?_
  refine z_bipush (v := 8) dX10_init_5 (by decide) ?_
  refine z_sipush (v := 256) dX10_init_7 (by decide) ?_
  refine z_multiP (N := 8) (M := 256) dX10_init_10 zy_X10_11 zz_int (by decide) rfl (by decide +kernel) (by decide) (by decide) (by decide) (by decide) (by decide) (by decide) hF (Nat.le_of_ble_eq_true rfl) (Nat.le_of_ble_eq_true rfl) ?_
  have hF := zFz_rows (N := 8) hF
  show zW _ _ _ _ _ _ _ _ _ _ _ 132 9 2056
  have hF : zFz 132 _ _ _ := hF
  refine z_putPl dX10_init_14 zf_X10_13 (by decide) rfl (Or.inr ⟨rfl, rfl, rfl⟩) (fun _ _ _ _ _ => rfl) (fun _ => rfl) (fun _ => rfl) ?_
  have hF := zFz_put (a := 122) (k := 0) (b := 123) hF (by decide)
  refine z_aload_n dX10_init_17 rfl ?_
  refine z_sipush (v := 512) dX10_init_18 (by decide) ?_
  refine z_newI (N := 512) dX10_init_21 zz_int (by decide) rfl (by decide) (by decide) (by decide) hF (Nat.le_of_ble_eq_true rfl) (Nat.le_of_ble_eq_true rfl) ?_
  show zW _ _ _ _ _ _ _ _ _ _ _ 133 10 2568
  have hF : zFz 133 _ _ _ := zFz_le hF (Nat.le_succ _)
  refine z_putPl dX10_init_23 zf_X10_18 (by decide) rfl (Or.inr ⟨rfl, rfl, rfl⟩) (fun _ _ _ _ _ => rfl) (fun _ => rfl) (fun _ => rfl) ?_
  have hF := zFz_put (a := 122) (k := 1) (b := 132) hF (by decide)
  exact z_return dX10_init_26 rfl (Nat.le_of_ble_eq_true rfl) (Nat.le_of_ble_eq_true rfl) (kk hF)
set_option maxRecDepth 20000 in
theorem k_X10_init_135 {Q : zQt} {I : zI} {L : zL} {l : List ((Nat × Nat) × Nat)} (hF : zFz 136 I L (pL l)) (hI : ∀ k, I 135 k = 0) (kk : zFz 146 (I) L (pL (((135, 1), 145) :: ((135, 0), 136) :: (zrows 136 8 ++ l))) → Q none (I) L (pL (((135, 1), 145) :: ((135, 0), 136) :: (zrows 136 8 ++ l))) 146) : zM zm_X10_init 1 10 2568 [.ref 135] I L (pL l) 136 Q := by
  refine zM_of (lv0 := [some (.ref 135)]) (by decide +kernel) (Nat.le_of_ble_eq_true rfl) rfl ?_
  refine z_aload_n dX10_init_0 rfl ?_
  refine z_objInit dX10_init_1 zl_X10_3 (Nat.le_of_ble_eq_true rfl) ⟨(Nat.le_of_ble_eq_true rfl), (Nat.le_of_ble_eq_true rfl)⟩ ?_
  refine z_aload_n dX10_init_4 rfl ?_
  refine z_bipush (v := 8) dX10_init_5 (by decide) ?_
  refine z_sipush (v := 256) dX10_init_7 (by decide) ?_
  refine z_multiP (N := 8) (M := 256) dX10_init_10 zy_X10_11 zz_int (by decide) rfl (by decide +kernel) (by decide) (by decide) (by decide) (by decide) (by decide) (by decide) hF (Nat.le_of_ble_eq_true rfl) (Nat.le_of_ble_eq_true rfl) ?_
  have hF := zFz_rows (N := 8) hF
  show zW _ _ _ _ _ _ _ _ _ _ _ 145 9 2056
  have hF : zFz 145 _ _ _ := hF
  refine z_putPl dX10_init_14 zf_X10_13 (by decide) rfl (Or.inr ⟨rfl, rfl, rfl⟩) (fun _ _ _ _ _ => rfl) (fun _ => rfl) (fun _ => rfl) ?_
  have hF := zFz_put (a := 135) (k := 0) (b := 136) hF (by decide)
  refine z_aload_n dX10_init_17 rfl ?_
  refine z_sipush (v := 512) dX10_init_18 (by decide) ?_
  refine z_newI (N := 512) dX10_init_21 zz_int (by decide) rfl (by decide) (by decide) (by decide) hF (Nat.le_of_ble_eq_true rfl) (Nat.le_of_ble_eq_true rfl) ?_
  show zW _ _ _ _ _ _ _ _ _ _ _ 146 10 2568
  have hF : zFz 146 _ _ _ := zFz_le hF (Nat.le_succ _)
  refine z_putPl dX10_init_23 zf_X10_18 (by decide) rfl (Or.inr ⟨rfl, rfl, rfl⟩) (fun _ _ _ _ _ => rfl) (fun _ => rfl) (fun _ => rfl) ?_
  have hF := zFz_put (a := 135) (k := 1) (b := 145) hF (by decide)
  exact z_return dX10_init_26 rfl (Nat.le_of_ble_eq_true rfl) (Nat.le_of_ble_eq_true rfl) (kk hF)
set_option maxRecDepth 20000 in
theorem k_X10_init_148 {Q : zQt} {I : zI} {L : zL} {l : List ((Nat × Nat) × Nat)} (hF : zFz 149 I L (pL l)) (hI : ∀ k, I 148 k = 0) (kk : zFz 159 (I) L (pL (((148, 1), 158) :: ((148, 0), 149) :: (zrows 149 8 ++ l))) → Q none (I) L (pL (((148, 1), 158) :: ((148, 0), 149) :: (zrows 149 8 ++ l))) 159) : zM zm_X10_init 1 10 2568 [.ref 148] I L (pL l) 149 Q := by
  refine zM_of (lv0 := [some (.ref 148)]) (by decide +kernel) (Nat.le_of_ble_eq_true rfl) rfl ?_
  refine z_aload_n dX10_init_0 rfl ?_
  refine z_objInit dX10_init_1 zl_X10_3 (Nat.le_of_ble_eq_true rfl) ⟨(Nat.le_of_ble_eq_true rfl), (Nat.le_of_ble_eq_true rfl)⟩ ?_
  refine z_aload_n dX10_init_4 rfl ?_
  refine z_bipush (v := 8) dX10_init_5 (by decide) ?_
  refine z_sipush (v := 256) dX10_init_7 (by decide) ?_
  refine z_multiP (N := 8) (M := 256) dX10_init_10 zy_X10_11 zz_int (by decide) rfl (by decide +kernel) (by decide) (by decide) (by decide) (by decide) (by decide) (by decide) hF (Nat.le_of_ble_eq_true rfl) (Nat.le_of_ble_eq_true rfl) ?_
  have hF := zFz_rows (N := 8) hF
  show zW _ _ _ _ _ _ _ _ _ _ _ 158 9 2056
  have hF : zFz 158 _ _ _ := hF
  refine z_putPl dX10_init_14 zf_X10_13 (by decide) rfl (Or.inr ⟨rfl, rfl, rfl⟩) (fun _ _ _ _ _ => rfl) (fun _ => rfl) (fun _ => rfl) ?_
  have hF := zFz_put (a := 148) (k := 0) (b := 149) hF (by decide)
  refine z_aload_n dX10_init_17 rfl ?_
  refine z_sipush (v := 512) dX10_init_18 (by decide) ?_
  refine z_newI (N := 512) dX10_init_21 zz_int (by decide) rfl (by decide) (by decide) (by decide) hF (Nat.le_of_ble_eq_true rfl) (Nat.le_of_ble_eq_true rfl) ?_
  show zW _ _ _ _ _ _ _ _ _ _ _ 159 10 2568
  have hF : zFz 159 _ _ _ := zFz_le hF (Nat.le_succ _)
  refine z_putPl dX10_init_23 zf_X10_18 (by decide) rfl (Or.inr ⟨rfl, rfl, rfl⟩) (fun _ _ _ _ _ => rfl) (fun _ => rfl) (fun _ => rfl) ?_
  have hF := zFz_put (a := 148) (k := 1) (b := 158) hF (by decide)
  exact z_return dX10_init_26 rfl (Nat.le_of_ble_eq_true rfl) (Nat.le_of_ble_eq_true rfl) (kk hF)
set_option maxRecDepth 20000 in
theorem k_X6_init_73 {Q : zQt} {I : zI} {L : zL} {l : List ((Nat × Nat) × Nat)} (hF : zFz 85 I L (pL l)) (hI : ∀ k, I 73 k = 0) (kk : zFz 86 (I) L (pL (((73, 0), 74) :: ((73, 1), 5) :: ((73, 2), 85) :: l)) → Q none (I) L (pL (((73, 0), 74) :: ((73, 1), 5) :: ((73, 2), 85) :: l)) 86) : zM zm_X6_init 1 1 256 [.ref 73, .ref 5, .ref 74] I L (pL l) 85 Q := by
  refine zM_of (lv0 := [some (.ref 73), some (.ref 5), some (.ref 74)]) (by decide +kernel) (Nat.le_of_ble_eq_true rfl) rfl ?_
  refine z_aload_n dX6_init_0 rfl ?_
  refine z_objInit dX6_init_1 zl_X6_3 (Nat.le_of_ble_eq_true rfl) ⟨(Nat.le_of_ble_eq_true rfl), (Nat.le_of_ble_eq_true rfl)⟩ ?_
  refine z_aload_n dX6_init_4 rfl ?_
  refine z_sipush (v := 256) dX6_init_5 (by decide) ?_
  refine z_newI (N := 256) dX6_init_8 zz_int (by decide) rfl (by decide) (by decide) (by decide) hF (Nat.le_of_ble_eq_true rfl) (Nat.le_of_ble_eq_true rfl) ?_
  show zW _ _ _ _ _ _ _ _ _ _ _ 86 1 256
  have hF : zFz 86 _ _ _ := zFz_le hF (Nat.le_succ _)
  refine z_putPl dX6_init_10 zf_X6_11 (by decide) rfl (Or.inr ⟨rfl, rfl, rfl⟩) (fun _ _ _ _ _ => rfl) (fun _ => rfl) (fun _ => rfl) ?_
  have hF := zFz_put (a := 73) (k := 2) (b := 85) hF (by decide)
  refine z_aload_n dX6_init_13 rfl ?_
  refine z_iconst (v := 0) dX6_init_14 (by decide) ?_
  refine z_putI0 (v := 0) dX6_init_15 zf_X6_17 (by decide) rfl (Or.inl rfl) (fun _ _ _ _ _ => rfl) (by decide) (by decide) (hI 3) ?_
  refine z_aload_n dX6_init_18 rfl ?_
  refine z_iconst (v := 0) dX6_init_19 (by decide) ?_
  refine z_putI0 (v := 0) dX6_init_20 zf_X6_21 (by decide) rfl (Or.inl rfl) (fun _ _ _ _ _ => rfl) (by decide) (by decide) (hI 4) ?_
  refine z_aload_n dX6_init_23 rfl ?_
  refine z_iconst (v := 0) dX6_init_24 (by decide) ?_
  refine z_putI0 (v := 0) dX6_init_25 zf_X6_24 (by decide) rfl (Or.inl rfl) (fun _ _ _ _ _ => rfl) (by decide) (by decide) (hI 5) ?_
  refine z_aload_n dX6_init_28 rfl ?_
  refine z_iconst (v := 0) dX6_init_29 (by decide) ?_
  refine z_putI0 (v := 0) dX6_init_30 zf_X6_27 (by decide) rfl (Or.inl rfl) (fun _ _ _ _ _ => rfl) (by decide) (by decide) (hI 6) ?_
  refine z_aload_n dX6_init_33 rfl ?_
  refine z_aload_n dX6_init_34 rfl ?_
  refine z_putPl dX6_init_35 zf_X6_30 (by decide) rfl (Or.inl rfl) (fun _ _ _ _ _ => rfl) (fun _ => rfl) (fun _ => rfl) ?_
  have hF := zFz_put (a := 73) (k := 1) (b := 5) hF (by decide)
  refine z_aload_n dX6_init_38 rfl ?_
  refine z_aload_n dX6_init_39 rfl ?_
  refine z_putPl dX6_init_40 zf_X6_34 (by decide) rfl (Or.inr ⟨rfl, rfl, rfl⟩) (fun _ _ _ _ _ => rfl) (fun _ => rfl) (fun _ => rfl) ?_
  have hF := zFz_put (a := 73) (k := 0) (b := 74) hF (by decide)
  exact z_return dX6_init_43 rfl (Nat.le_of_ble_eq_true rfl) (Nat.le_of_ble_eq_true rfl) (kk hF)
set_option maxRecDepth 20000 in
theorem k_X6_init_86 {Q : zQt} {I : zI} {L : zL} {l : List ((Nat × Nat) × Nat)} (hF : zFz 87 I L (pL l)) (hI : ∀ k, I 86 k = 0) (kk : zFz 88 (I) L (pL (((86, 0), 74) :: ((86, 1), 5) :: ((86, 2), 87) :: l)) → Q none (I) L (pL (((86, 0), 74) :: ((86, 1), 5) :: ((86, 2), 87) :: l)) 88) : zM zm_X6_init 1 1 256 [.ref 86, .ref 5, .ref 74] I L (pL l) 87 Q := by
  refine zM_of (lv0 := [some (.ref 86), some (.ref 5), some (.ref 74)]) (by decide +kernel) (Nat.le_of_ble_eq_true rfl) rfl ?_
  refine z_aload_n dX6_init_0 rfl ?_
  refine z_objInit dX6_init_1 zl_X6_3 (Nat.le_of_ble_eq_true rfl) ⟨(Nat.le_of_ble_eq_true rfl), (Nat.le_of_ble_eq_true rfl)⟩ ?_
  refine z_aload_n dX6_init_4 rfl ?_
  refine z_sipush (v := 256) dX6_init_5 (by decide) ?_
  refine z_newI (N := 256) dX6_init_8 zz_int (by decide) rfl (by decide) (by decide) (by decide) hF (Nat.le_of_ble_eq_true rfl) (Nat.le_of_ble_eq_true rfl) ?_
  show zW _ _ _ _ _ _ _ _ _ _ _ 88 1 256
  have hF : zFz 88 _ _ _ := zFz_le hF (Nat.le_succ _)
  refine z_putPl dX6_init_10 zf_X6_11 (by decide) rfl (Or.inr ⟨rfl, rfl, rfl⟩) (fun _ _ _ _ _ => rfl) (fun _ => rfl) (fun _ => rfl) ?_
  have hF := zFz_put (a := 86) (k := 2) (b := 87) hF (by decide)
  refine z_aload_n dX6_init_13 rfl ?_
  refine z_iconst (v := 0) dX6_init_14 (by decide) ?_
  refine z_putI0 (v := 0) dX6_init_15 zf_X6_17 (by decide) rfl (Or.inl rfl) (fun _ _ _ _ _ => rfl) (by decide) (by decide) (hI 3) ?_
  refine z_aload_n dX6_init_18 rfl ?_
  refine z_iconst (v := 0) dX6_init_19 (by decide) ?_
  refine z_putI0 (v := 0) dX6_init_20 zf_X6_21 (by decide) rfl (Or.inl rfl) (fun _ _ _ _ _ => rfl) (by decide) (by decide) (hI 4) ?_
  refine z_aload_n dX6_init_23 rfl ?_
  refine z_iconst (v := 0) dX6_init_24 (by decide) ?_
  refine z_putI0 (v := 0) dX6_init_25 zf_X6_24 (by decide) rfl (Or.inl rfl) (fun _ _ _ _ _ => rfl) (by decide) (by decide) (hI 5) ?_
  refine z_aload_n dX6_init_28 rfl ?_
  refine z_iconst (v := 0) dX6_init_29 (by decide) ?_
  refine z_putI0 (v := 0) dX6_init_30 zf_X6_27 (by decide) rfl (Or.inl rfl) (fun _ _ _ _ _ => rfl) (by decide) (by decide) (hI 6) ?_
  refine z_aload_n dX6_init_33 rfl ?_
  refine z_aload_n dX6_init_34 rfl ?_
  refine z_putPl dX6_init_35 zf_X6_30 (by decide) rfl (Or.inl rfl) (fun _ _ _ _ _ => rfl) (fun _ => rfl) (fun _ => rfl) ?_
  have hF := zFz_put (a := 86) (k := 1) (b := 5) hF (by decide)
  refine z_aload_n dX6_init_38 rfl ?_
  refine z_aload_n dX6_init_39 rfl ?_
  refine z_putPl dX6_init_40 zf_X6_34 (by decide) rfl (Or.inr ⟨rfl, rfl, rfl⟩) (fun _ _ _ _ _ => rfl) (fun _ => rfl) (fun _ => rfl) ?_
  have hF := zFz_put (a := 86) (k := 0) (b := 74) hF (by decide)
  exact z_return dX6_init_43 rfl (Nat.le_of_ble_eq_true rfl) (Nat.le_of_ble_eq_true rfl) (kk hF)
set_option maxRecDepth 20000 in
theorem k_X6_init_107 {Q : zQt} {I : zI} {L : zL} {l : List ((Nat × Nat) × Nat)} (hF : zFz 119 I L (pL l)) (hI : ∀ k, I 107 k = 0) (kk : zFz 120 (I) L (pL (((107, 0), 108) :: ((107, 1), 5) :: ((107, 2), 119) :: l)) → Q none (I) L (pL (((107, 0), 108) :: ((107, 1), 5) :: ((107, 2), 119) :: l)) 120) : zM zm_X6_init 1 1 256 [.ref 107, .ref 5, .ref 108] I L (pL l) 119 Q := by
  refine zM_of (lv0 := [some (.ref 107), some (.ref 5), some (.ref 108)]) (by decide +kernel) (Nat.le_of_ble_eq_true rfl) rfl ?_
  refine z_aload_n dX6_init_0 rfl ?_
  refine z_objInit dX6_init_1 zl_X6_3 (Nat.le_of_ble_eq_true rfl) ⟨(Nat.le_of_ble_eq_true rfl), (Nat.le_of_ble_eq_true rfl)⟩ ?_
  refine z_aload_n dX6_init_4 rfl ?_
  refine z_sipush (v := 256) dX6_init_5 (by decide) ?_
  refine z_newI (N := 256) dX6_init_8 zz_int (by decide) rfl (by decide) (by decide) (by decide) hF (Nat.le_of_ble_eq_true rfl) (Nat.le_of_ble_eq_true rfl) ?_
  show zW _ _ _ _ _ _ _ _ _ _ _ 120 1 256
  have hF : zFz 120 _ _ _ := zFz_le hF (Nat.le_succ _)
  refine z_putPl dX6_init_10 zf_X6_11 (by decide) rfl (Or.inr ⟨rfl, rfl, rfl⟩) (fun _ _ _ _ _ => rfl) (fun _ => rfl) (fun _ => rfl) ?_
  have hF := zFz_put (a := 107) (k := 2) (b := 119) hF (by decide)
  refine z_aload_n dX6_init_13 rfl ?_
  refine z_iconst (v := 0) dX6_init_14 (by decide) ?_
  refine z_putI0 (v := 0) dX6_init_15 zf_X6_17 (by decide) rfl (Or.inl rfl) (fun _ _ _ _ _ => rfl) (by decide) (by decide) (hI 3) ?_
  refine z_aload_n dX6_init_18 rfl ?_
  refine z_iconst (v := 0) dX6_init_19 (by decide) ?_
  refine z_putI0 (v := 0) dX6_init_20 zf_X6_21 (by decide) rfl (Or.inl rfl) (fun _ _ _ _ _ => rfl) (by decide) (by decide) (hI 4) ?_
  refine z_aload_n dX6_init_23 rfl ?_
  refine z_iconst (v := 0) dX6_init_24 (by decide) ?_
  refine z_putI0 (v := 0) dX6_init_25 zf_X6_24 (by decide) rfl (Or.inl rfl) (fun _ _ _ _ _ => rfl) (by decide) (by decide) (hI 5) ?_
  refine z_aload_n dX6_init_28 rfl ?_
  refine z_iconst (v := 0) dX6_init_29 (by decide) ?_
  refine z_putI0 (v := 0) dX6_init_30 zf_X6_27 (by decide) rfl (Or.inl rfl) (fun _ _ _ _ _ => rfl) (by decide) (by decide) (hI 6) ?_
  refine z_aload_n dX6_init_33 rfl ?_
  refine z_aload_n dX6_init_34 rfl ?_
  refine z_putPl dX6_init_35 zf_X6_30 (by decide) rfl (Or.inl rfl) (fun _ _ _ _ _ => rfl) (fun _ => rfl) (fun _ => rfl) ?_
  have hF := zFz_put (a := 107) (k := 1) (b := 5) hF (by decide)
  refine z_aload_n dX6_init_38 rfl ?_
  refine z_aload_n dX6_init_39 rfl ?_
  refine z_putPl dX6_init_40 zf_X6_34 (by decide) rfl (Or.inr ⟨rfl, rfl, rfl⟩) (fun _ _ _ _ _ => rfl) (fun _ => rfl) (fun _ => rfl) ?_
  have hF := zFz_put (a := 107) (k := 0) (b := 108) hF (by decide)
  exact z_return dX6_init_43 rfl (Nat.le_of_ble_eq_true rfl) (Nat.le_of_ble_eq_true rfl) (kk hF)
set_option maxRecDepth 20000 in
theorem k_X6_init_121 {Q : zQt} {I : zI} {L : zL} {l : List ((Nat × Nat) × Nat)} (hF : zFz 133 I L (pL l)) (hI : ∀ k, I 121 k = 0) (kk : zFz 134 (I) L (pL (((121, 0), 122) :: ((121, 1), 5) :: ((121, 2), 133) :: l)) → Q none (I) L (pL (((121, 0), 122) :: ((121, 1), 5) :: ((121, 2), 133) :: l)) 134) : zM zm_X6_init 1 1 256 [.ref 121, .ref 5, .ref 122] I L (pL l) 133 Q := by
  refine zM_of (lv0 := [some (.ref 121), some (.ref 5), some (.ref 122)]) (by decide +kernel) (Nat.le_of_ble_eq_true rfl) rfl ?_
  refine z_aload_n dX6_init_0 rfl ?_
  refine z_objInit dX6_init_1 zl_X6_3 (Nat.le_of_ble_eq_true rfl) ⟨(Nat.le_of_ble_eq_true rfl), (Nat.le_of_ble_eq_true rfl)⟩ ?_
  refine z_aload_n dX6_init_4 rfl ?_
  refine z_sipush (v := 256) dX6_init_5 (by decide) ?_
  refine z_newI (N := 256) dX6_init_8 zz_int (by decide) rfl (by decide) (by decide) (by decide) hF (Nat.le_of_ble_eq_true rfl) (Nat.le_of_ble_eq_true rfl) ?_
  show zW _ _ _ _ _ _ _ _ _ _ _ 134 1 256
  have hF : zFz 134 _ _ _ := zFz_le hF (Nat.le_succ _)
  refine z_putPl dX6_init_10 zf_X6_11 (by decide) rfl (Or.inr ⟨rfl, rfl, rfl⟩) (fun _ _ _ _ _ => rfl) (fun _ => rfl) (fun _ => rfl) ?_
  have hF := zFz_put (a := 121) (k := 2) (b := 133) hF (by decide)
  refine z_aload_n dX6_init_13 rfl ?_
  refine z_iconst (v := 0) dX6_init_14 (by decide) ?_
  refine z_putI0 (v := 0) dX6_init_15 zf_X6_17 (by decide) rfl (Or.inl rfl) (fun _ _ _ _ _ => rfl) (by decide) (by decide) (hI 3) ?_
  refine z_aload_n dX6_init_18 rfl ?_
  refine z_iconst (v := 0) dX6_init_19 (by decide) ?_
  refine z_putI0 (v := 0) dX6_init_20 zf_X6_21 (by decide) rfl (Or.inl rfl) (fun _ _ _ _ _ => rfl) (by decide) (by decide) (hI 4) ?_
  refine z_aload_n dX6_init_23 rfl ?_
  refine z_iconst (v := 0) dX6_init_24 (by decide) ?_
  refine z_putI0 (v := 0) dX6_init_25 zf_X6_24 (by decide) rfl (Or.inl rfl) (fun _ _ _ _ _ => rfl) (by decide) (by decide) (hI 5) ?_
  refine z_aload_n dX6_init_28 rfl ?_
  refine z_iconst (v := 0) dX6_init_29 (by decide) ?_
  refine z_putI0 (v := 0) dX6_init_30 zf_X6_27 (by decide) rfl (Or.inl rfl) (fun _ _ _ _ _ => rfl) (by decide) (by decide) (hI 6) ?_
  refine z_aload_n dX6_init_33 rfl ?_
  refine z_aload_n dX6_init_34 rfl ?_
  refine z_putPl dX6_init_35 zf_X6_30 (by decide) rfl (Or.inl rfl) (fun _ _ _ _ _ => rfl) (fun _ => rfl) (fun _ => rfl) ?_
  have hF := zFz_put (a := 121) (k := 1) (b := 5) hF (by decide)
  refine z_aload_n dX6_init_38 rfl ?_
  refine z_aload_n dX6_init_39 rfl ?_
  refine z_putPl dX6_init_40 zf_X6_34 (by decide) rfl (Or.inr ⟨rfl, rfl, rfl⟩) (fun _ _ _ _ _ => rfl) (fun _ => rfl) (fun _ => rfl) ?_
  have hF := zFz_put (a := 121) (k := 0) (b := 122) hF (by decide)
  exact z_return dX6_init_43 rfl (Nat.le_of_ble_eq_true rfl) (Nat.le_of_ble_eq_true rfl) (kk hF)
set_option maxRecDepth 20000 in
theorem k_X6_init_134 {Q : zQt} {I : zI} {L : zL} {l : List ((Nat × Nat) × Nat)} (hF : zFz 146 I L (pL l)) (hI : ∀ k, I 134 k = 0) (kk : zFz 147 (I) L (pL (((134, 0), 135) :: ((134, 1), 5) :: ((134, 2), 146) :: l)) → Q none (I) L (pL (((134, 0), 135) :: ((134, 1), 5) :: ((134, 2), 146) :: l)) 147) : zM zm_X6_init 1 1 256 [.ref 134, .ref 5, .ref 135] I L (pL l) 146 Q := by
  refine zM_of (lv0 := [some (.ref 134), some (.ref 5), some (.ref 135)]) (by decide +kernel) (Nat.le_of_ble_eq_true rfl) rfl ?_
  refine z_aload_n dX6_init_0 rfl ?_
  refine z_objInit dX6_init_1 zl_X6_3 (Nat.le_of_ble_eq_true rfl) ⟨(Nat.le_of_ble_eq_true rfl), (Nat.le_of_ble_eq_true rfl)⟩ ?_
  refine z_aload_n dX6_init_4 rfl ?_
  refine z_sipush (v := 256) dX6_init_5 (by decide) ?_
  refine z_newI (N := 256) dX6_init_8 zz_int (by decide) rfl (by decide) (by decide) (by decide) hF (Nat.le_of_ble_eq_true rfl) (Nat.le_of_ble_eq_true rfl) ?_
  show zW _ _ _ _ _ _ _ _ _ _ _ 147 1 256
  have hF : zFz 147 _ _ _ := zFz_le hF (Nat.le_succ _)
  refine z_putPl dX6_init_10 zf_X6_11 (by decide) rfl (Or.inr ⟨rfl, rfl, rfl⟩) (fun _ _ _ _ _ => rfl) (fun _ => rfl) (fun _ => rfl) ?_
  have hF := zFz_put (a := 134) (k := 2) (b := 146) hF (by decide)
  refine z_aload_n dX6_init_13 rfl ?_
  refine z_iconst (v := 0) dX6_init_14 (by decide) ?_
  refine z_putI0 (v := 0) dX6_init_15 zf_X6_17 (by decide) rfl (Or.inl rfl) (fun _ _ _ _ _ => rfl) (by decide) (by decide) (hI 3) ?_
  refine z_aload_n dX6_init_18 rfl ?_
  refine z_iconst (v := 0) dX6_init_19 (by decide) ?_
  refine z_putI0 (v := 0) dX6_init_20 zf_X6_21 (by decide) rfl (Or.inl rfl) (fun _ _ _ _ _ => rfl) (by decide) (by decide) (hI 4) ?_
  refine z_aload_n dX6_init_23 rfl ?_
  refine z_iconst (v := 0) dX6_init_24 (by decide) ?_
  refine z_putI0 (v := 0) dX6_init_25 zf_X6_24 (by decide) rfl (Or.inl rfl) (fun _ _ _ _ _ => rfl) (by decide) (by decide) (hI 5) ?_
  refine z_aload_n dX6_init_28 rfl ?_
  refine z_iconst (v := 0) dX6_init_29 (by decide) ?_
  refine z_putI0 (v := 0) dX6_init_30 zf_X6_27 (by decide) rfl (Or.inl rfl) (fun _ _ _ _ _ => rfl) (by decide) (by decide) (hI 6) ?_
  refine z_aload_n dX6_init_33 rfl ?_
  refine z_aload_n dX6_init_34 rfl ?_
  refine z_putPl dX6_init_35 zf_X6_30 (by decide) rfl (Or.inl rfl) (fun _ _ _ _ _ => rfl) (fun _ => rfl) (fun _ => rfl) ?_
  have hF := zFz_put (a := 134) (k := 1) (b := 5) hF (by decide)
  refine z_aload_n dX6_init_38 rfl ?_
  refine z_aload_n dX6_init_39 rfl ?_
  refine z_putPl dX6_init_40 zf_X6_34 (by decide) rfl (Or.inr ⟨rfl, rfl, rfl⟩) (fun _ _ _ _ _ => rfl) (fun _ => rfl) (fun _ => rfl) ?_
  have hF := zFz_put (a := 134) (k := 0) (b := 135) hF (by decide)
  exact z_return dX6_init_43 rfl (Nat.le_of_ble_eq_true rfl) (Nat.le_of_ble_eq_true rfl) (kk hF)
set_option maxRecDepth 20000 in
theorem k_X6_init_147 {Q : zQt} {I : zI} {L : zL} {l : List ((Nat × Nat) × Nat)} (hF : zFz 159 I L (pL l)) (hI : ∀ k, I 147 k = 0) (kk : zFz 160 (I) L (pL (((147, 0), 148) :: ((147, 1), 5) :: ((147, 2), 159) :: l)) → Q none (I) L (pL (((147, 0), 148) :: ((147, 1), 5) :: ((147, 2), 159) :: l)) 160) : zM zm_X6_init 1 1 256 [.ref 147, .ref 5, .ref 148] I L (pL l) 159 Q := by
  refine zM_of (lv0 := [some (.ref 147), some (.ref 5), some (.ref 148)]) (by decide +kernel) (Nat.le_of_ble_eq_true rfl) rfl ?_
  refine z_aload_n dX6_init_0 rfl ?_
  refine z_objInit dX6_init_1 zl_X6_3 (Nat.le_of_ble_eq_true rfl) ⟨(Nat.le_of_ble_eq_true rfl), (Nat.le_of_ble_eq_true rfl)⟩ ?_
  refine z_aload_n dX6_init_4 rfl ?_
  refine z_sipush (v := 256) dX6_init_5 (by decide) ?_
  refine z_newI (N := 256) dX6_init_8 zz_int (by decide) rfl (by decide) (by decide) (by decide) hF (Nat.le_of_ble_eq_true rfl) (Nat.le_of_ble_eq_true rfl) ?_
  show zW _ _ _ _ _ _ _ _ _ _ _ 160 1 256
  have hF : zFz 160 _ _ _ := zFz_le hF (Nat.le_succ _)
  refine z_putPl dX6_init_10 zf_X6_11 (by decide) rfl (Or.inr ⟨rfl, rfl, rfl⟩) (fun _ _ _ _ _ => rfl) (fun _ => rfl) (fun _ => rfl) ?_
  have hF := zFz_put (a := 147) (k := 2) (b := 159) hF (by decide)
  refine z_aload_n dX6_init_13 rfl ?_
  refine z_iconst (v := 0) dX6_init_14 (by decide) ?_
  refine z_putI0 (v := 0) dX6_init_15 zf_X6_17 (by decide) rfl (Or.inl rfl) (fun _ _ _ _ _ => rfl) (by decide) (by decide) (hI 3) ?_
  refine z_aload_n dX6_init_18 rfl ?_
  refine z_iconst (v := 0) dX6_init_19 (by decide) ?_
  refine z_putI0 (v := 0) dX6_init_20 zf_X6_21 (by decide) rfl (Or.inl rfl) (fun _ _ _ _ _ => rfl) (by decide) (by decide) (hI 4) ?_
  refine z_aload_n dX6_init_23 rfl ?_
  refine z_iconst (v := 0) dX6_init_24 (by decide) ?_
  refine z_putI0 (v := 0) dX6_init_25 zf_X6_24 (by decide) rfl (Or.inl rfl) (fun _ _ _ _ _ => rfl) (by decide) (by decide) (hI 5) ?_
  refine z_aload_n dX6_init_28 rfl ?_
  refine z_iconst (v := 0) dX6_init_29 (by decide) ?_
  refine z_putI0 (v := 0) dX6_init_30 zf_X6_27 (by decide) rfl (Or.inl rfl) (fun _ _ _ _ _ => rfl) (by decide) (by decide) (hI 6) ?_
  refine z_aload_n dX6_init_33 rfl ?_
  refine z_aload_n dX6_init_34 rfl ?_
  refine z_putPl dX6_init_35 zf_X6_30 (by decide) rfl (Or.inl rfl) (fun _ _ _ _ _ => rfl) (fun _ => rfl) (fun _ => rfl) ?_
  have hF := zFz_put (a := 147) (k := 1) (b := 5) hF (by decide)
  refine z_aload_n dX6_init_38 rfl ?_
  refine z_aload_n dX6_init_39 rfl ?_
  refine z_putPl dX6_init_40 zf_X6_34 (by decide) rfl (Or.inr ⟨rfl, rfl, rfl⟩) (fun _ _ _ _ _ => rfl) (fun _ => rfl) (fun _ => rfl) ?_
  have hF := zFz_put (a := 147) (k := 0) (b := 148) hF (by decide)
  exact z_return dX6_init_43 rfl (Nat.le_of_ble_eq_true rfl) (Nat.le_of_ble_eq_true rfl) (kk hF)
set_option maxRecDepth 20000 in
theorem k_X7_init_90 {Q : zQt} {I : zI} {L : zL} {l : List ((Nat × Nat) × Nat)} (hF : zFz 91 I L (pL l)) (hI : ∀ k, I 90 k = 0) (kk : zFz 96 (I) L (pL (((90, 4), 95) :: ((90, 3), 94) :: ((90, 2), 93) :: ((90, 1), 92) :: ((90, 0), 91) :: l)) → Q none (I) L (pL (((90, 4), 95) :: ((90, 3), 94) :: ((90, 2), 93) :: ((90, 1), 92) :: ((90, 0), 91) :: l)) 96) : zM zm_X7_init 1 5 100 [.ref 90] I L (pL l) 91 Q := by
  refine zM_of (lv0 := [some (.ref 90)]) (by decide +kernel) (Nat.le_of_ble_eq_true rfl) rfl ?_
  refine z_aload_n dX7_init_0 rfl ?_
  refine z_objInit dX7_init_1 zl_X7_3 (Nat.le_of_ble_eq_true rfl) ⟨(Nat.le_of_ble_eq_true rfl), (Nat.le_of_ble_eq_true rfl)⟩ ?_
  refine z_aload_n dX7_init_4 rfl ?_
  refine z_bipush (v := 20) dX7_init_5 (by decide) ?_
  refine z_newI (N := 20) dX7_init_7 zz_int (by decide) rfl (by decide) (by decide) (by decide) hF (Nat.le_of_ble_eq_true rfl) (Nat.le_of_ble_eq_true rfl) ?_
  show zW _ _ _ _ _ _ _ _ _ _ _ 92 1 20
  have hF : zFz 92 _ _ _ := zFz_le hF (Nat.le_succ _)
  refine z_putPl dX7_init_9 zf_X7_11 (by decide) rfl (Or.inr ⟨rfl, rfl, rfl⟩) (fun _ _ _ _ _ => rfl) (fun _ => rfl) (fun _ => rfl) ?_
  have hF := zFz_put (a := 90) (k := 0) (b := 91) hF (by decide)
  refine z_aload_n dX7_init_12 rfl ?_
  refine z_bipush (v := 20) dX7_init_13 (by decide) ?_
  refine z_newI (N := 20) dX7_init_15 zz_int (by decide) rfl (by decide) (by decide) (by decide) hF (Nat.le_of_ble_eq_true rfl) (Nat.le_of_ble_eq_true rfl) ?_
  show zW _ _ _ _ _ _ _ _ _ _ _ 93 2 40
  have hF : zFz 93 _ _ _ := zFz_le hF (Nat.le_succ _)
  refine z_putPl dX7_init_17 zf_X7_15 (by decide) rfl (Or.inr ⟨rfl, rfl, rfl⟩) (fun _ _ _ _ _ => rfl) (fun _ => rfl) (fun _ => rfl) ?_
  have hF := zFz_put (a := 90) (k := 1) (b := 92) hF (by decide)
  refine z_aload_n dX7_init_20 rfl ?_
  refine z_bipush (v := 20) dX7_init_21 (by decide) ?_
  refine z_newZ (N := 20) dX7_init_23 zz_boolean (by decide) rfl (by decide) (by decide) (by decide) hF (Nat.le_of_ble_eq_true rfl) (Nat.le_of_ble_eq_true rfl) ?_
  show zW _ _ _ _ _ _ _ _ _ _ _ 94 3 60
  have hF : zFz 94 _ _ _ := zFz_le hF (Nat.le_succ _)
  refine z_putPl dX7_init_25 zf_X7_18 (by decide) rfl (Or.inr ⟨rfl, rfl, rfl⟩) (fun _ _ _ _ _ => rfl) (fun _ => rfl) (fun _ => rfl) ?_
  have hF := zFz_put (a := 90) (k := 2) (b := 93) hF (by decide)
  refine z_aload_n dX7_init_28 rfl ?_
  refine z_bipush (v := 20) dX7_init_29 (by decide) ?_
  refine z_newI (N := 20) dX7_init_31 zz_int (by decide) rfl (by decide) (by decide) (by decide) hF (Nat.le_of_ble_eq_true rfl) (Nat.le_of_ble_eq_true rfl) ?_
  show zW _ _ _ _ _ _ _ _ _ _ _ 95 4 80
  have hF : zFz 95 _ _ _ := zFz_le hF (Nat.le_succ _)
  refine z_putPl dX7_init_33 zf_X7_22 (by decide) rfl (Or.inr ⟨rfl, rfl, rfl⟩) (fun _ _ _ _ _ => rfl) (fun _ => rfl) (fun _ => rfl) ?_
  have hF := zFz_put (a := 90) (k := 3) (b := 94) hF (by decide)
  refine z_aload_n dX7_init_36 rfl ?_
  refine z_bipush (v := 20) dX7_init_37 (by decide) ?_
  refine z_newI (N := 20) dX7_init_39 zz_int (by decide) rfl (by decide) (by decide) (by decide) hF (Nat.le_of_ble_eq_true rfl) (Nat.le_of_ble_eq_true rfl) ?_
  show zW _ _ _ _ _ _ _ _ _ _ _ 96 5 100
  have hF : zFz 96 _ _ _ := zFz_le hF (Nat.le_succ _)
  refine z_putPl dX7_init_41 zf_X7_25 (by decide) rfl (Or.inr ⟨rfl, rfl, rfl⟩) (fun _ _ _ _ _ => rfl) (fun _ => rfl) (fun _ => rfl) ?_
  have hF := zFz_put (a := 90) (k := 4) (b := 95) hF (by decide)
  refine z_aload_n dX7_init_44 rfl ?_
  refine z_iconst (v := 0) dX7_init_45 (by decide) ?_
  refine z_putI0 (v := 0) dX7_init_46 zf_X7_28 (by decide) rfl (Or.inl rfl) (fun _ _ _ _ _ => rfl) (by decide) (by decide) (hI 5) ?_
  refine z_aload_n dX7_init_49 rfl ?_
  refine z_iconst (v := 0) dX7_init_50 (by decide) ?_
  refine z_putI0 (v := 0) dX7_init_51 zf_X7_32 (by decide) rfl (Or.inl rfl) (fun _ _ _ _ _ => rfl) (by decide) (by decide) (hI 6) ?_
  exact z_return dX7_init_54 rfl (Nat.le_of_ble_eq_true rfl) (Nat.le_of_ble_eq_true rfl) (kk hF)
set_option maxRecDepth 20000 in
theorem k_X1_init_96 {Q : zQt} {I : zI} {L : zL} {l : List ((Nat × Nat) × Nat)} (hF : zFz 97 I L (pL l)) (hI : ∀ k, I 96 k = 0) (kk : zFz 120 (I) L (pL (((96, 1), 107) :: ((107, 0), 108) :: ((107, 1), 5) :: ((107, 2), 119) :: ((108, 1), 118) :: ((108, 0), 109) :: (zrows 109 8 ++ (((96, 3), 106) :: ((96, 2), 105) :: ((96, 0), 97) :: (zrows 97 7 ++ l))))) → Q none (I) L (pL (((96, 1), 107) :: ((107, 0), 108) :: ((107, 1), 5) :: ((107, 2), 119) :: ((108, 1), 118) :: ((108, 0), 109) :: (zrows 109 8 ++ (((96, 3), 106) :: ((96, 2), 105) :: ((96, 0), 97) :: (zrows 97 7 ++ l))))) 120) : zM zm_X1_init 2 23 3800 [.ref 96, .ref 5] I L (pL l) 97 Q := by
  refine zM_of (lv0 := [some (.ref 96), some (.ref 5)]) (by decide +kernel) (Nat.le_of_ble_eq_true rfl) rfl ?_
  refine z_aload_n dX1_init_0 rfl ?_
  refine z_objInit dX1_init_1 zl_X1_3 (Nat.le_of_ble_eq_true rfl) ⟨(Nat.le_of_ble_eq_true rfl), (Nat.le_of_ble_eq_true rfl)⟩ ?_
  refine z_aload_n dX1_init_4 rfl ?_
  refine z_bipush (v := 7) dX1_init_5 (by decide) ?_
  refine z_bipush (v := 64) dX1_init_7 (by decide) ?_
  refine z_multiP (N := 7) (M := 64) dX1_init_9 zy_X1_13 zz_int (by decide) rfl (by decide +kernel) (by decide) (by decide) (by decide) (by decide) (by decide) (by decide) hF (Nat.le_of_ble_eq_true rfl) (Nat.le_of_ble_eq_true rfl) ?_
  have hF := zFz_rows (N := 7) hF
  show zW _ _ _ _ _ _ _ _ _ _ _ 105 8 455
  have hF : zFz 105 _ _ _ := hF
  refine z_putPl dX1_init_13 zf_X1_15 (by decide) rfl (Or.inr ⟨rfl, rfl, rfl⟩) (fun _ _ _ _ _ => rfl) (fun _ => rfl) (fun _ => rfl) ?_
  have hF := zFz_put (a := 96) (k := 0) (b := 97) hF (by decide)
  refine z_aload_n dX1_init_16 rfl ?_
  refine z_sipush (v := 256) dX1_init_17 (by decide) ?_
  refine z_newI (N := 256) dX1_init_20 zz_int (by decide) rfl (by decide) (by decide) (by decide) hF (Nat.le_of_ble_eq_true rfl) (Nat.le_of_ble_eq_true rfl) ?_
  show zW _ _ _ _ _ _ _ _ _ _ _ 106 9 711
  have hF : zFz 106 _ _ _ := zFz_le hF (Nat.le_succ _)
  refine z_putPl dX1_init_22 zf_X1_18 (by decide) rfl (Or.inr ⟨rfl, rfl, rfl⟩) (fun _ _ _ _ _ => rfl) (fun _ => rfl) (fun _ => rfl) ?_
  have hF := zFz_put (a := 96) (k := 2) (b := 105) hF (by decide)
  refine z_aload_n dX1_init_25 rfl ?_
  refine z_sipush (v := 256) dX1_init_26 (by decide) ?_
  refine z_newI (N := 256) dX1_init_29 zz_int (by decide) rfl (by decide) (by decide) (by decide) hF (Nat.le_of_ble_eq_true rfl) (Nat.le_of_ble_eq_true rfl) ?_
  show zW _ _ _ _ _ _ _ _ _ _ _ 107 10 967
  have hF : zFz 107 _ _ _ := zFz_le hF (Nat.le_succ _)
  refine z_putPl dX1_init_31 zf_X1_22 (by decide) rfl (Or.inr ⟨rfl, rfl, rfl⟩) (fun _ _ _ _ _ => rfl) (fun _ => rfl) (fun _ => rfl) ?_
  have hF := zFz_put (a := 96) (k := 3) (b := 106) hF (by decide)
  refine z_aload_n dX1_init_34 rfl ?_
  refine z_iconst (v := 0) dX1_init_35 (by decide) ?_
  refine z_putI0 (v := 0) dX1_init_36 zf_X1_25 (by decide) rfl (Or.inl rfl) (fun _ _ _ _ _ => rfl) (by decide) (by decide) (hI 4) ?_
  refine z_aload_n dX1_init_39 rfl ?_
  refine z_iconst (v := 0) dX1_init_40 (by decide) ?_
  refine z_putI0 (v := 0) dX1_init_41 zf_X1_29 (by decide) rfl (Or.inl rfl) (fun _ _ _ _ _ => rfl) (by decide) (by decide) (hI 5) ?_
  refine z_aload_n dX1_init_44 rfl ?_
  refine z_iconst (v := 0) dX1_init_45 (by decide) ?_
  refine z_putI0 (v := 0) dX1_init_46 zf_X1_33 (by decide) rfl (Or.inl rfl) (fun _ _ _ _ _ => rfl) (by decide) (by decide) (hI 6) ?_
  refine z_aload_n dX1_init_49 rfl ?_
  have hI107 : ∀ k, (I) 107 k = 0 := fun k => (hF 107 (Nat.le_refl _) k).1
  refine z_new (c := 5) dX1_init_50 (by decide) zy_X1_36 (by decide) rfl hF (Nat.le_of_ble_eq_true rfl) (Nat.le_of_ble_eq_true rfl) ?_
  show zW _ _ _ _ _ _ _ _ _ _ _ 108 11 974
  have hF : zFz 108 _ _ _ := zFz_le hF (Nat.le_succ _)
  refine z_dup dX1_init_53 rfl ?_
  refine z_aload_n dX1_init_54 rfl ?_
  have hI108 : ∀ k, (I) 108 k = 0 := fun k => (hF 108 (Nat.le_refl _) k).1
  refine z_new (c := 9) dX1_init_55 (by decide) zy_X1_38 (by decide) rfl hF (Nat.le_of_ble_eq_true rfl) (Nat.le_of_ble_eq_true rfl) ?_
  show zW _ _ _ _ _ _ _ _ _ _ _ 109 12 976
  have hF : zFz 109 _ _ _ := zFz_le hF (Nat.le_succ _)
  refine z_dup dX1_init_58 rfl ?_
  refine z_callIN (As := []) (st := [.ref 108, .ref 5, .ref 107, .ref 107, .ref 96]) dX1_init_59 zl_X1_40 rfl rfl zx_X10_init rfl rfl (Nat.le_of_ble_eq_true rfl) ⟨(Nat.le_of_ble_eq_true rfl), (Nat.le_of_ble_eq_true rfl)⟩ ⟨(Nat.le_of_ble_eq_true rfl), (Nat.le_of_ble_eq_true rfl)⟩ (k_X10_init_108 (Q := (fun v I' L' P' nx' => none = v ∧ I = I' ∧ L = L' ∧ pL (((108, 1), 118) :: ((108, 0), 109) :: (zrows 109 8 ++ (((96, 3), 106) :: ((96, 2), 105) :: ((96, 0), 97) :: (zrows 97 7 ++ l)))) = P' ∧ 119 = nx' ∧ zFz 119 (I) L (pL (((108, 1), 118) :: ((108, 0), 109) :: (zrows 109 8 ++ (((96, 3), 106) :: ((96, 2), 105) :: ((96, 0), 97) :: (zrows 97 7 ++ l))))))) hF hI108 (fun h => ⟨rfl, rfl, rfl, rfl, rfl, h⟩)) (fun v1 I1 L1 P1 nx1 q => ?_)
  obtain ⟨rfl, rfl, rfl, rfl, rfl, hF⟩ := q
  show zW _ _ _ _ _ _ _ _ _ _ _ 119 22 3544
  refine z_callI (As := [.ref 5, .ref 108]) (st := [.ref 107, .ref 96]) dX1_init_62 zl_X1_41 rfl rfl zx_X6_init rfl rfl (Nat.le_of_ble_eq_true rfl) ⟨(Nat.le_of_ble_eq_true rfl), (Nat.le_of_ble_eq_true rfl)⟩ ⟨(Nat.le_of_ble_eq_true rfl), (Nat.le_of_ble_eq_true rfl)⟩ (k_X6_init_107 (Q := (fun v I' L' P' nx' => none = v ∧ I = I' ∧ L = L' ∧ pL (((107, 0), 108) :: ((107, 1), 5) :: ((107, 2), 119) :: ((108, 1), 118) :: ((108, 0), 109) :: (zrows 109 8 ++ (((96, 3), 106) :: ((96, 2), 105) :: ((96, 0), 97) :: (zrows 97 7 ++ l)))) = P' ∧ 120 = nx' ∧ zFz 120 (I) L (pL (((107, 0), 108) :: ((107, 1), 5) :: ((107, 2), 119) :: ((108, 1), 118) :: ((108, 0), 109) :: (zrows 109 8 ++ (((96, 3), 106) :: ((96, 2), 105) :: ((96, 0), 97) :: (zrows 97 7 ++ l))))))) hF hI107 (fun h => ⟨rfl, rfl, rfl, rfl, rfl, h⟩)) (fun v1 I1 L1 P1 nx1 q => ?_)
  obtain ⟨rfl, rfl, rfl, rfl, rfl, hF⟩ := q
  show zW _ _ _ _ _ _ _ _ _ _ _ 120 23 3800
  refine z_putPl dX1_init_65 zf_X1_44 (by decide) rfl (Or.inr ⟨rfl, rfl, rfl⟩) (fun _ _ _ _ _ => rfl) (fun _ => rfl) (fun _ => rfl) ?_
  have hF := zFz_put (a := 96) (k := 1) (b := 107) hF (by decide)
  exact z_return dX1_init_68 rfl (Nat.le_of_ble_eq_true rfl) (Nat.le_of_ble_eq_true rfl) (kk hF)
