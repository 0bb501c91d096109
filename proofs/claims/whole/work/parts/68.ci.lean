/-! ===== the class: formulas weighed ===== -/
abbrev gw_J6_bitCount_0f7a4 (d : Nat) (Q : zQt) (pc : Nat) (lv : zV) (st : List Value) (I : zI) (L : zL) (P : zP) : Prop := zW zm_J6_bitCount_0f7a4 (zRm d 0 0) 0 0 Q pc lv st I L P 205 0 0
abbrev v_J6_bitCount_0f7a4 (d : Nat) (Q : zQt) (p1 : Int32) (I : zI) (L : zL) (P : zP) : Prop :=
  Q (some (.int ((((((((p1 - ((((p1 : Int32).toUInt32 >>> ((1 : Int32).toUInt32 &&& Int32.toUInt32 31)).toInt32) &&& 1431655765 : Int32)) &&& 858993459 : Int32) + (((((p1 - ((((p1 : Int32).toUInt32 >>> ((1 : Int32).toUInt32 &&& Int32.toUInt32 31)).toInt32) &&& 1431655765 : Int32)) : Int32).toUInt32 >>> ((2 : Int32).toUInt32 &&& Int32.toUInt32 31)).toInt32) &&& 858993459 : Int32)) + ((((((p1 - ((((p1 : Int32).toUInt32 >>> ((1 : Int32).toUInt32 &&& Int32.toUInt32 31)).toInt32) &&& 1431655765 : Int32)) &&& 858993459 : Int32) + (((((p1 - ((((p1 : Int32).toUInt32 >>> ((1 : Int32).toUInt32 &&& Int32.toUInt32 31)).toInt32) &&& 1431655765 : Int32)) : Int32).toUInt32 >>> ((2 : Int32).toUInt32 &&& Int32.toUInt32 31)).toInt32) &&& 858993459 : Int32)) : Int32).toUInt32 >>> ((4 : Int32).toUInt32 &&& Int32.toUInt32 31)).toInt32)) &&& 252645135 : Int32) + ((((((((p1 - ((((p1 : Int32).toUInt32 >>> ((1 : Int32).toUInt32 &&& Int32.toUInt32 31)).toInt32) &&& 1431655765 : Int32)) &&& 858993459 : Int32) + (((((p1 - ((((p1 : Int32).toUInt32 >>> ((1 : Int32).toUInt32 &&& Int32.toUInt32 31)).toInt32) &&& 1431655765 : Int32)) : Int32).toUInt32 >>> ((2 : Int32).toUInt32 &&& Int32.toUInt32 31)).toInt32) &&& 858993459 : Int32)) + ((((((p1 - ((((p1 : Int32).toUInt32 >>> ((1 : Int32).toUInt32 &&& Int32.toUInt32 31)).toInt32) &&& 1431655765 : Int32)) &&& 858993459 : Int32) + (((((p1 - ((((p1 : Int32).toUInt32 >>> ((1 : Int32).toUInt32 &&& Int32.toUInt32 31)).toInt32) &&& 1431655765 : Int32)) : Int32).toUInt32 >>> ((2 : Int32).toUInt32 &&& Int32.toUInt32 31)).toInt32) &&& 858993459 : Int32)) : Int32).toUInt32 >>> ((4 : Int32).toUInt32 &&& Int32.toUInt32 31)).toInt32)) &&& 252645135 : Int32) : Int32).toUInt32 >>> ((8 : Int32).toUInt32 &&& Int32.toUInt32 31)).toInt32)) + (((((((((p1 - ((((p1 : Int32).toUInt32 >>> ((1 : Int32).toUInt32 &&& Int32.toUInt32 31)).toInt32) &&& 1431655765 : Int32)) &&& 858993459 : Int32) + (((((p1 - ((((p1 : Int32).toUInt32 >>> ((1 : Int32).toUInt32 &&& Int32.toUInt32 31)).toInt32) &&& 1431655765 : Int32)) : Int32).toUInt32 >>> ((2 : Int32).toUInt32 &&& Int32.toUInt32 31)).toInt32) &&& 858993459 : Int32)) + ((((((p1 - ((((p1 : Int32).toUInt32 >>> ((1 : Int32).toUInt32 &&& Int32.toUInt32 31)).toInt32) &&& 1431655765 : Int32)) &&& 858993459 : Int32) + (((((p1 - ((((p1 : Int32).toUInt32 >>> ((1 : Int32).toUInt32 &&& Int32.toUInt32 31)).toInt32) &&& 1431655765 : Int32)) : Int32).toUInt32 >>> ((2 : Int32).toUInt32 &&& Int32.toUInt32 31)).toInt32) &&& 858993459 : Int32)) : Int32).toUInt32 >>> ((4 : Int32).toUInt32 &&& Int32.toUInt32 31)).toInt32)) &&& 252645135 : Int32) + ((((((((p1 - ((((p1 : Int32).toUInt32 >>> ((1 : Int32).toUInt32 &&& Int32.toUInt32 31)).toInt32) &&& 1431655765 : Int32)) &&& 858993459 : Int32) + (((((p1 - ((((p1 : Int32).toUInt32 >>> ((1 : Int32).toUInt32 &&& Int32.toUInt32 31)).toInt32) &&& 1431655765 : Int32)) : Int32).toUInt32 >>> ((2 : Int32).toUInt32 &&& Int32.toUInt32 31)).toInt32) &&& 858993459 : Int32)) + ((((((p1 - ((((p1 : Int32).toUInt32 >>> ((1 : Int32).toUInt32 &&& Int32.toUInt32 31)).toInt32) &&& 1431655765 : Int32)) &&& 858993459 : Int32) + (((((p1 - ((((p1 : Int32).toUInt32 >>> ((1 : Int32).toUInt32 &&& Int32.toUInt32 31)).toInt32) &&& 1431655765 : Int32)) : Int32).toUInt32 >>> ((2 : Int32).toUInt32 &&& Int32.toUInt32 31)).toInt32) &&& 858993459 : Int32)) : Int32).toUInt32 >>> ((4 : Int32).toUInt32 &&& Int32.toUInt32 31)).toInt32)) &&& 252645135 : Int32) : Int32).toUInt32 >>> ((8 : Int32).toUInt32 &&& Int32.toUInt32 31)).toInt32)) : Int32).toUInt32 >>> ((16 : Int32).toUInt32 &&& Int32.toUInt32 31)).toInt32)) &&& 63 : Int32))) I L P 205
set_option maxRecDepth 20000 in
theorem g_J6_bitCount_0f7a4 {d : Nat} {Q : zQt} {p1 : Int32} {I : zI} {L : zL} {P : zP} (hP : zPk P) (hv : v_J6_bitCount_0f7a4 d Q p1 I L P) : zM zm_J6_bitCount_0f7a4 d 0 0 [.int p1] I L P 205 Q := by
  unfold v_J6_bitCount_0f7a4 at hv
  refine zM_of (lv0 := [some (.int p1)]) (by decide +kernel) (Nat.le_of_ble_eq_true rfl) rfl ?_
  refine z_iload_n dJ6_bitCount_0f7a4_0 rfl ?_
  refine z_iload_n dJ6_bitCount_0f7a4_1 rfl ?_
  refine z_iconst (v := 1) dJ6_bitCount_0f7a4_2 (by decide) ?_
  refine z_iushr dJ6_bitCount_0f7a4_3 ?_
  refine z_ldc_w (v := 1431655765) dJ6_bitCount_0f7a4_4 zi_J6_265 ?_
  refine z_iand dJ6_bitCount_0f7a4_7 ?_
  refine z_isub dJ6_bitCount_0f7a4_8 ?_
  refine z_istore_n (lv2 := [some (.int (p1 - ((((p1 : Int32).toUInt32 >>> ((1 : Int32).toUInt32 &&& Int32.toUInt32 31)).toInt32) &&& 1431655765 : Int32)))]) dJ6_bitCount_0f7a4_9 (by decide) rfl rfl ?_
  refine z_iload_n dJ6_bitCount_0f7a4_10 rfl ?_
  refine z_ldc_w (v := 858993459) dJ6_bitCount_0f7a4_11 zi_J6_266 ?_
  refine z_iand dJ6_bitCount_0f7a4_14 ?_
  refine z_iload_n dJ6_bitCount_0f7a4_15 rfl ?_
  refine z_iconst (v := 2) dJ6_bitCount_0f7a4_16 (by decide) ?_
  refine z_iushr dJ6_bitCount_0f7a4_17 ?_
  refine z_ldc_w (v := 858993459) dJ6_bitCount_0f7a4_18 zi_J6_266 ?_
  refine z_iand dJ6_bitCount_0f7a4_21 ?_
  refine z_iadd dJ6_bitCount_0f7a4_22 ?_
  refine z_istore_n (lv2 := [some (.int (((p1 - ((((p1 : Int32).toUInt32 >>> ((1 : Int32).toUInt32 &&& Int32.toUInt32 31)).toInt32) &&& 1431655765 : Int32)) &&& 858993459 : Int32) + (((((p1 - ((((p1 : Int32).toUInt32 >>> ((1 : Int32).toUInt32 &&& Int32.toUInt32 31)).toInt32) &&& 1431655765 : Int32)) : Int32).toUInt32 >>> ((2 : Int32).toUInt32 &&& Int32.toUInt32 31)).toInt32) &&& 858993459 : Int32)))]) dJ6_bitCount_0f7a4_23 (by decide) rfl rfl ?_
  refine z_iload_n dJ6_bitCount_0f7a4_24 rfl ?_
  refine z_iload_n dJ6_bitCount_0f7a4_25 rfl ?_
  refine z_iconst (v := 4) dJ6_bitCount_0f7a4_26 (by decide) ?_
  refine z_iushr dJ6_bitCount_0f7a4_27 ?_
  refine z_iadd dJ6_bitCount_0f7a4_28 ?_
  refine z_ldc_w (v := 252645135) dJ6_bitCount_0f7a4_29 zi_J6_267 ?_
  refine z_iand dJ6_bitCount_0f7a4_32 ?_
  refine z_istore_n (lv2 := [some (.int (((((p1 - ((((p1 : Int32).toUInt32 >>> ((1 : Int32).toUInt32 &&& Int32.toUInt32 31)).toInt32) &&& 1431655765 : Int32)) &&& 858993459 : Int32) + (((((p1 - ((((p1 : Int32).toUInt32 >>> ((1 : Int32).toUInt32 &&& Int32.toUInt32 31)).toInt32) &&& 1431655765 : Int32)) : Int32).toUInt32 >>> ((2 : Int32).toUInt32 &&& Int32.toUInt32 31)).toInt32) &&& 858993459 : Int32)) + ((((((p1 - ((((p1 : Int32).toUInt32 >>> ((1 : Int32).toUInt32 &&& Int32.toUInt32 31)).toInt32) &&& 1431655765 : Int32)) &&& 858993459 : Int32) + (((((p1 - ((((p1 : Int32).toUInt32 >>> ((1 : Int32).toUInt32 &&& Int32.toUInt32 31)).toInt32) &&& 1431655765 : Int32)) : Int32).toUInt32 >>> ((2 : Int32).toUInt32 &&& Int32.toUInt32 31)).toInt32) &&& 858993459 : Int32)) : Int32).toUInt32 >>> ((4 : Int32).toUInt32 &&& Int32.toUInt32 31)).toInt32)) &&& 252645135 : Int32))]) dJ6_bitCount_0f7a4_33 (by decide) rfl rfl ?_
  refine z_iload_n dJ6_bitCount_0f7a4_34 rfl ?_
  refine z_iload_n dJ6_bitCount_0f7a4_35 rfl ?_
  refine z_bipush (v := 8) dJ6_bitCount_0f7a4_36 (by decide) ?_
  refine z_iushr dJ6_bitCount_0f7a4_38 ?_
  refine z_iadd dJ6_bitCount_0f7a4_39 ?_
  refine z_istore_n (lv2 := [some (.int ((((((p1 - ((((p1 : Int32).toUInt32 >>> ((1 : Int32).toUInt32 &&& Int32.toUInt32 31)).toInt32) &&& 1431655765 : Int32)) &&& 858993459 : Int32) + (((((p1 - ((((p1 : Int32).toUInt32 >>> ((1 : Int32).toUInt32 &&& Int32.toUInt32 31)).toInt32) &&& 1431655765 : Int32)) : Int32).toUInt32 >>> ((2 : Int32).toUInt32 &&& Int32.toUInt32 31)).toInt32) &&& 858993459 : Int32)) + ((((((p1 - ((((p1 : Int32).toUInt32 >>> ((1 : Int32).toUInt32 &&& Int32.toUInt32 31)).toInt32) &&& 1431655765 : Int32)) &&& 858993459 : Int32) + (((((p1 - ((((p1 : Int32).toUInt32 >>> ((1 : Int32).toUInt32 &&& Int32.toUInt32 31)).toInt32) &&& 1431655765 : Int32)) : Int32).toUInt32 >>> ((2 : Int32).toUInt32 &&& Int32.toUInt32 31)).toInt32) &&& 858993459 : Int32)) : Int32).toUInt32 >>> ((4 : Int32).toUInt32 &&& Int32.toUInt32 31)).toInt32)) &&& 252645135 : Int32) + ((((((((p1 - ((((p1 : Int32).toUInt32 >>> ((1 : Int32).toUInt32 &&& Int32.toUInt32 31)).toInt32) &&& 1431655765 : Int32)) &&& 858993459 : Int32) + (((((p1 - ((((p1 : Int32).toUInt32 >>> ((1 : Int32).toUInt32 &&& Int32.toUInt32 31)).toInt32) &&& 1431655765 : Int32)) : Int32).toUInt32 >>> ((2 : Int32).toUInt32 &&& Int32.toUInt32 31)).toInt32) &&& 858993459 : Int32)) + ((((((p1 - ((((p1 : Int32).toUInt32 >>> ((1 : Int32).toUInt32 &&& Int32.toUInt32 31)).toInt32) &&& 1431655765 : Int32)) &&& 858993459 : Int32) + (((((p1 - ((((p1 : Int32).toUInt32 >>> ((1 : Int32).toUInt32 &&& Int32.toUInt32 31)).toInt32) &&& 1431655765 : Int32)) : Int32).toUInt32 >>> ((2 : Int32).toUInt32 &&& Int32.toUInt32 31)).toInt32) &&& 858993459 : Int32)) : Int32).toUInt32 >>> ((4 : Int32).toUInt32 &&& Int32.toUInt32 31)).toInt32)) &&& 252645135 : Int32) : Int32).toUInt32 >>> ((8 : Int32).toUInt32 &&& Int32.toUInt32 31)).toInt32)))]) dJ6_bitCount_0f7a4_40 (by decide) rfl rfl ?_
  refine z_iload_n dJ6_bitCount_0f7a4_41 rfl ?_
  refine z_iload_n dJ6_bitCount_0f7a4_42 rfl ?_
  refine z_bipush (v := 16) dJ6_bitCount_0f7a4_43 (by decide) ?_
  refine z_iushr dJ6_bitCount_0f7a4_45 ?_
  refine z_iadd dJ6_bitCount_0f7a4_46 ?_
  refine z_istore_n (lv2 := [some (.int (((((((p1 - ((((p1 : Int32).toUInt32 >>> ((1 : Int32).toUInt32 &&& Int32.toUInt32 31)).toInt32) &&& 1431655765 : Int32)) &&& 858993459 : Int32) + (((((p1 - ((((p1 : Int32).toUInt32 >>> ((1 : Int32).toUInt32 &&& Int32.toUInt32 31)).toInt32) &&& 1431655765 : Int32)) : Int32).toUInt32 >>> ((2 : Int32).toUInt32 &&& Int32.toUInt32 31)).toInt32) &&& 858993459 : Int32)) + ((((((p1 - ((((p1 : Int32).toUInt32 >>> ((1 : Int32).toUInt32 &&& Int32.toUInt32 31)).toInt32) &&& 1431655765 : Int32)) &&& 858993459 : Int32) + (((((p1 - ((((p1 : Int32).toUInt32 >>> ((1 : Int32).toUInt32 &&& Int32.toUInt32 31)).toInt32) &&& 1431655765 : Int32)) : Int32).toUInt32 >>> ((2 : Int32).toUInt32 &&& Int32.toUInt32 31)).toInt32) &&& 858993459 : Int32)) : Int32).toUInt32 >>> ((4 : Int32).toUInt32 &&& Int32.toUInt32 31)).toInt32)) &&& 252645135 : Int32) + ((((((((p1 - ((((p1 : Int32).toUInt32 >>> ((1 : Int32).toUInt32 &&& Int32.toUInt32 31)).toInt32) &&& 1431655765 : Int32)) &&& 858993459 : Int32) + (((((p1 - ((((p1 : Int32).toUInt32 >>> ((1 : Int32).toUInt32 &&& Int32.toUInt32 31)).toInt32) &&& 1431655765 : Int32)) : Int32).toUInt32 >>> ((2 : Int32).toUInt32 &&& Int32.toUInt32 31)).toInt32) &&& 858993459 : Int32)) + ((((((p1 - ((((p1 : Int32).toUInt32 >>> ((1 : Int32).toUInt32 &&& Int32.toUInt32 31)).toInt32) &&& 1431655765 : Int32)) &&& 858993459 : Int32) + (((((p1 - ((((p1 : Int32).toUInt32 >>> ((1 : Int32).toUInt32 &&& Int32.toUInt32 31)).toInt32) &&& 1431655765 : Int32)) : Int32).toUInt32 >>> ((2 : Int32).toUInt32 &&& Int32.toUInt32 31)).toInt32) &&& 858993459 : Int32)) : Int32).toUInt32 >>> ((4 : Int32).toUInt32 &&& Int32.toUInt32 31)).toInt32)) &&& 252645135 : Int32) : Int32).toUInt32 >>> ((8 : Int32).toUInt32 &&& Int32.toUInt32 31)).toInt32)) + (((((((((p1 - ((((p1 : Int32).toUInt32 >>> ((1 : Int32).toUInt32 &&& Int32.toUInt32 31)).toInt32) &&& 1431655765 : Int32)) &&& 858993459 : Int32) + (((((p1 - ((((p1 : Int32).toUInt32 >>> ((1 : Int32).toUInt32 &&& Int32.toUInt32 31)).toInt32) &&& 1431655765 : Int32)) : Int32).toUInt32 >>> ((2 : Int32).toUInt32 &&& Int32.toUInt32 31)).toInt32) &&& 858993459 : Int32)) + ((((((p1 - ((((p1 : Int32).toUInt32 >>> ((1 : Int32).toUInt32 &&& Int32.toUInt32 31)).toInt32) &&& 1431655765 : Int32)) &&& 858993459 : Int32) + (((((p1 - ((((p1 : Int32).toUInt32 >>> ((1 : Int32).toUInt32 &&& Int32.toUInt32 31)).toInt32) &&& 1431655765 : Int32)) : Int32).toUInt32 >>> ((2 : Int32).toUInt32 &&& Int32.toUInt32 31)).toInt32) &&& 858993459 : Int32)) : Int32).toUInt32 >>> ((4 : Int32).toUInt32 &&& Int32.toUInt32 31)).toInt32)) &&& 252645135 : Int32) + ((((((((p1 - ((((p1 : Int32).toUInt32 >>> ((1 : Int32).toUInt32 &&& Int32.toUInt32 31)).toInt32) &&& 1431655765 : Int32)) &&& 858993459 : Int32) + (((((p1 - ((((p1 : Int32).toUInt32 >>> ((1 : Int32).toUInt32 &&& Int32.toUInt32 31)).toInt32) &&& 1431655765 : Int32)) : Int32).toUInt32 >>> ((2 : Int32).toUInt32 &&& Int32.toUInt32 31)).toInt32) &&& 858993459 : Int32)) + ((((((p1 - ((((p1 : Int32).toUInt32 >>> ((1 : Int32).toUInt32 &&& Int32.toUInt32 31)).toInt32) &&& 1431655765 : Int32)) &&& 858993459 : Int32) + (((((p1 - ((((p1 : Int32).toUInt32 >>> ((1 : Int32).toUInt32 &&& Int32.toUInt32 31)).toInt32) &&& 1431655765 : Int32)) : Int32).toUInt32 >>> ((2 : Int32).toUInt32 &&& Int32.toUInt32 31)).toInt32) &&& 858993459 : Int32)) : Int32).toUInt32 >>> ((4 : Int32).toUInt32 &&& Int32.toUInt32 31)).toInt32)) &&& 252645135 : Int32) : Int32).toUInt32 >>> ((8 : Int32).toUInt32 &&& Int32.toUInt32 31)).toInt32)) : Int32).toUInt32 >>> ((16 : Int32).toUInt32 &&& Int32.toUInt32 31)).toInt32)))]) dJ6_bitCount_0f7a4_47 (by decide) rfl rfl ?_
  refine z_iload_n dJ6_bitCount_0f7a4_48 rfl ?_
  refine z_bipush (v := 63) dJ6_bitCount_0f7a4_49 (by decide) ?_
  refine z_iand dJ6_bitCount_0f7a4_51 ?_
  exact z_ireturn dJ6_bitCount_0f7a4_52 rfl rfl (Nat.le_refl _) (Nat.le_refl _) hv
theorem sp_bitCount {d w : Nat} {I : zI} {L : zL} {P : zP} (hP : zPk P) (hw : w < 256) {K : Int32 → zI → zL → zP → Prop} (kk : K (nI (popc w 31)) I L P) : zMi zm_J6_bitCount_0f7a4 d [.int (nI w)] I L P K := by
  refine g_J6_bitCount_0f7a4 hP ?_
  have key : ∀ w, w < 256 → (((((((((nI w) - (((((nI w) : Int32).toUInt32 >>> ((1 : Int32).toUInt32 &&& Int32.toUInt32 31)).toInt32) &&& 1431655765 : Int32)) &&& 858993459 : Int32) + ((((((nI w) - (((((nI w) : Int32).toUInt32 >>> ((1 : Int32).toUInt32 &&& Int32.toUInt32 31)).toInt32) &&& 1431655765 : Int32)) : Int32).toUInt32 >>> ((2 : Int32).toUInt32 &&& Int32.toUInt32 31)).toInt32) &&& 858993459 : Int32)) + (((((((nI w) - (((((nI w) : Int32).toUInt32 >>> ((1 : Int32).toUInt32 &&& Int32.toUInt32 31)).toInt32) &&& 1431655765 : Int32)) &&& 858993459 : Int32) + ((((((nI w) - (((((nI w) : Int32).toUInt32 >>> ((1 : Int32).toUInt32 &&& Int32.toUInt32 31)).toInt32) &&& 1431655765 : Int32)) : Int32).toUInt32 >>> ((2 : Int32).toUInt32 &&& Int32.toUInt32 31)).toInt32) &&& 858993459 : Int32)) : Int32).toUInt32 >>> ((4 : Int32).toUInt32 &&& Int32.toUInt32 31)).toInt32)) &&& 252645135 : Int32) + (((((((((nI w) - (((((nI w) : Int32).toUInt32 >>> ((1 : Int32).toUInt32 &&& Int32.toUInt32 31)).toInt32) &&& 1431655765 : Int32)) &&& 858993459 : Int32) + ((((((nI w) - (((((nI w) : Int32).toUInt32 >>> ((1 : Int32).toUInt32 &&& Int32.toUInt32 31)).toInt32) &&& 1431655765 : Int32)) : Int32).toUInt32 >>> ((2 : Int32).toUInt32 &&& Int32.toUInt32 31)).toInt32) &&& 858993459 : Int32)) + (((((((nI w) - (((((nI w) : Int32).toUInt32 >>> ((1 : Int32).toUInt32 &&& Int32.toUInt32 31)).toInt32) &&& 1431655765 : Int32)) &&& 858993459 : Int32) + ((((((nI w) - (((((nI w) : Int32).toUInt32 >>> ((1 : Int32).toUInt32 &&& Int32.toUInt32 31)).toInt32) &&& 1431655765 : Int32)) : Int32).toUInt32 >>> ((2 : Int32).toUInt32 &&& Int32.toUInt32 31)).toInt32) &&& 858993459 : Int32)) : Int32).toUInt32 >>> ((4 : Int32).toUInt32 &&& Int32.toUInt32 31)).toInt32)) &&& 252645135 : Int32) : Int32).toUInt32 >>> ((8 : Int32).toUInt32 &&& Int32.toUInt32 31)).toInt32)) + ((((((((((nI w) - (((((nI w) : Int32).toUInt32 >>> ((1 : Int32).toUInt32 &&& Int32.toUInt32 31)).toInt32) &&& 1431655765 : Int32)) &&& 858993459 : Int32) + ((((((nI w) - (((((nI w) : Int32).toUInt32 >>> ((1 : Int32).toUInt32 &&& Int32.toUInt32 31)).toInt32) &&& 1431655765 : Int32)) : Int32).toUInt32 >>> ((2 : Int32).toUInt32 &&& Int32.toUInt32 31)).toInt32) &&& 858993459 : Int32)) + (((((((nI w) - (((((nI w) : Int32).toUInt32 >>> ((1 : Int32).toUInt32 &&& Int32.toUInt32 31)).toInt32) &&& 1431655765 : Int32)) &&& 858993459 : Int32) + ((((((nI w) - (((((nI w) : Int32).toUInt32 >>> ((1 : Int32).toUInt32 &&& Int32.toUInt32 31)).toInt32) &&& 1431655765 : Int32)) : Int32).toUInt32 >>> ((2 : Int32).toUInt32 &&& Int32.toUInt32 31)).toInt32) &&& 858993459 : Int32)) : Int32).toUInt32 >>> ((4 : Int32).toUInt32 &&& Int32.toUInt32 31)).toInt32)) &&& 252645135 : Int32) + (((((((((nI w) - (((((nI w) : Int32).toUInt32 >>> ((1 : Int32).toUInt32 &&& Int32.toUInt32 31)).toInt32) &&& 1431655765 : Int32)) &&& 858993459 : Int32) + ((((((nI w) - (((((nI w) : Int32).toUInt32 >>> ((1 : Int32).toUInt32 &&& Int32.toUInt32 31)).toInt32) &&& 1431655765 : Int32)) : Int32).toUInt32 >>> ((2 : Int32).toUInt32 &&& Int32.toUInt32 31)).toInt32) &&& 858993459 : Int32)) + (((((((nI w) - (((((nI w) : Int32).toUInt32 >>> ((1 : Int32).toUInt32 &&& Int32.toUInt32 31)).toInt32) &&& 1431655765 : Int32)) &&& 858993459 : Int32) + ((((((nI w) - (((((nI w) : Int32).toUInt32 >>> ((1 : Int32).toUInt32 &&& Int32.toUInt32 31)).toInt32) &&& 1431655765 : Int32)) : Int32).toUInt32 >>> ((2 : Int32).toUInt32 &&& Int32.toUInt32 31)).toInt32) &&& 858993459 : Int32)) : Int32).toUInt32 >>> ((4 : Int32).toUInt32 &&& Int32.toUInt32 31)).toInt32)) &&& 252645135 : Int32) : Int32).toUInt32 >>> ((8 : Int32).toUInt32 &&& Int32.toUInt32 31)).toInt32)) : Int32).toUInt32 >>> ((16 : Int32).toUInt32 &&& Int32.toUInt32 31)).toInt32)) &&& 63 : Int32) = nI (popc w 31) := by decide +kernel
  unfold v_J6_bitCount_0f7a4
  rw [key w hw]
  exact qi kk
abbrev gw_X4_leaf (d : Nat) (Q : zQt) (pc : Nat) (lv : zV) (st : List Value) (I : zI) (L : zL) (P : zP) : Prop := zW zm_X4_leaf (zRm d 0 0) 0 0 Q pc lv st I L P 205 0 0
abbrev v_X4_leaf (d : Nat) (Q : zQt) (p1 : Int32) (p2 : Int32) (p3 : Int32) (p4 : Int32) (I : zI) (L : zL) (P : zP) : Prop :=
  (p1 = 262 →
    Q (some (.int ((p3 >>> (p2 &&& 31) : Int32) &&& 1 : Int32))) I L P 205
  ) ∧
  (p1 = 268 →
    zMi zm_J6_bitCount_0f7a4 d [.int p3] I L P (fun r5 I1 L2 P3 =>
      Q (some (.int r5)) I1 L2 P3 205
    )
  ) ∧
  (p1 = 274 →
    Q (some (.int p2)) I L P 205
  ) ∧
  (¬ p1 = 262 → ¬ p1 = 268 → ¬ p1 = 274 →
    Q (some (.int ((p4 >>> (p2 &&& 31) : Int32) &&& 1 : Int32))) I L P 205
  )
set_option maxRecDepth 20000 in
theorem g_X4_leaf {d : Nat} {Q : zQt} {p1 : Int32} {p2 : Int32} {p3 : Int32} {p4 : Int32} {I : zI} {L : zL} {P : zP} (hP : zPk P) (hv : v_X4_leaf d Q p1 p2 p3 p4 I L P) : zM zm_X4_leaf (d + 1) 0 0 [.int p1, .int p2, .int p3, .int p4] I L P 205 Q := by
  unfold v_X4_leaf at hv
  refine zM_of (lv0 := [some (.int p1), some (.int p2), some (.int p3), some (.int p4)]) (by decide +kernel) (Nat.le_of_ble_eq_true rfl) rfl ?_
  refine z_iload_n dX4_leaf_0 rfl ?_
  by_cases q6 : p1 = 262
  · have hv := hv.1 q6
    refine z_lookup (off := 42) (tgt := 43) dX4_leaf_1 (by decide) (by rw [q6]; decide) (by decide) ?_
    refine z_iload_n dX4_leaf_43 rfl ?_
    refine z_iload_n dX4_leaf_44 rfl ?_
    refine z_ishr dX4_leaf_45 ?_
    refine z_iconst (v := 1) dX4_leaf_46 (by decide) ?_
    refine z_iand dX4_leaf_47 ?_
    exact z_ireturn dX4_leaf_48 rfl rfl (Nat.le_refl _) (Nat.le_refl _) hv
  by_cases q7 : p1 = 268
  · have hv := hv.2.1 q7
    refine z_lookup (off := 37) (tgt := 38) dX4_leaf_1 (by decide) (by rw [q7]; decide) (by decide) ?_
    refine z_iload_n dX4_leaf_38 rfl ?_
    refine z_callS (As := [.int p3]) (st := []) dX4_leaf_39 zl_X4_108 zs_J6_bitCount_0f7a4 rfl rfl (Nat.le_of_ble_eq_true rfl) ⟨Nat.le_refl _, Nat.le_refl _⟩ ⟨Nat.le_refl _, Nat.le_refl _⟩ hv (fun v1 I1 L2 P3 nx1 q4 => ?_)
    obtain ⟨rfl, r5, rfl, hv⟩ := q4
    exact z_ireturn dX4_leaf_42 rfl rfl (Nat.le_refl _) (Nat.le_refl _) hv
  by_cases q8 : p1 = 274
  · have hv := hv.2.2.1 q8
    refine z_lookup (off := 35) (tgt := 36) dX4_leaf_1 (by decide) (by rw [q8]; decide) (by decide) ?_
    refine z_iload_n dX4_leaf_36 rfl ?_
    exact z_ireturn dX4_leaf_37 rfl rfl (Nat.le_refl _) (Nat.le_refl _) hv
  have hv := hv.2.2.2 q6 q7 q8
  refine z_lookup (off := 48) (tgt := 49) dX4_leaf_1 (by decide) ((lv_osw q6 (by decide)).trans ((lv_osw q7 (by decide)).trans ((lv_osw q8 (by decide)).trans rfl))) (by decide) ?_
  refine z_iload_n dX4_leaf_49 rfl ?_
  refine z_iload_n dX4_leaf_50 rfl ?_
  refine z_ishr dX4_leaf_51 ?_
  refine z_iconst (v := 1) dX4_leaf_52 (by decide) ?_
  refine z_iand dX4_leaf_53 ?_
  exact z_ireturn dX4_leaf_54 rfl rfl (Nat.le_refl _) (Nat.le_refl _) hv
theorem sp_X4_leaf {d w k : Nat} {x g : Int32} {I : zI} {L : zL} {P : zP} (hP : zPk P) (hw : w < 256) (hk : k = 274 ∨ k = 268 ∨ k = 262 ∨ k = 269) (hd : 1 ≤ d) {K : Int32 → zI → zL → zP → Prop} (kk : K (sLf (nI (mcK k)) x g w) I L P) : zMi zm_X4_leaf d [.int (nI k), .int x, .int (nI w), .int g] I L P K := by
  obtain ⟨d, rfl⟩ : ∃ e, d = e + 1 := ⟨d - 1, by omega⟩
  rcases hk with rfl | rfl | rfl | rfl
  · exact g_X4_leaf hP ⟨fun q => absurd q (by decide), fun q => absurd q (by decide), fun _ => qi kk, fun _ _ q => absurd rfl q⟩
  · exact g_X4_leaf hP ⟨fun q => absurd q (by decide), fun _ => sp_bitCount hP hw (qi kk), fun q => absurd q (by decide), fun _ q => absurd rfl q⟩
  · exact g_X4_leaf hP ⟨fun _ => qi kk, fun q => absurd q (by decide), fun q => absurd q (by decide), fun q => absurd rfl q⟩
  · exact g_X4_leaf hP ⟨fun q => absurd q (by decide), fun q => absurd q (by decide), fun q => absurd q (by decide), fun _ _ _ => qi kk⟩
abbrev gw_X4_joined (d : Nat) (Q : zQt) (pc : Nat) (lv : zV) (st : List Value) (I : zI) (L : zL) (P : zP) : Prop := zW zm_X4_joined (zRm d 0 0) 0 0 Q pc lv st I L P 205 0 0
abbrev v_X4_joined (d : Nat) (Q : zQt) (p1 : Int32) (p2 : Int32) (p3 : Int32) (I : zI) (L : zL) (P : zP) : Prop :=
  (p1 = 42 →
    Q (some (.int (p2 * p3))) I L P 205
  ) ∧
  (p1 = 43 →
    Q (some (.int (p2 + p3))) I L P 205
  ) ∧
  (p1 = 45 →
    Q (some (.int (p2 - p3))) I L P 205
  ) ∧
  (p1 = 47 →
    ((¬ p3 = 0 →
      ¬ p3 = 0 ∧
      Q (some (.int (p2 / p3))) I L P 205
    ) ∧ (p3 = 0 →
      Q (some (.int 0)) I L P 205
    ))
  ) ∧
  (p1 = 60 →
    ((p3 ≤ p2 →
      Q (some (.int 0)) I L P 205
    ) ∧ (¬ p3 ≤ p2 →
      Q (some (.int 1)) I L P 205
    ))
  ) ∧
  (p1 = 61 →
    ((¬ p2 = p3 →
      Q (some (.int 0)) I L P 205
    ) ∧ (p2 = p3 →
      Q (some (.int 1)) I L P 205
    ))
  ) ∧
  (p1 = 62 →
    ((p2 ≤ p3 →
      Q (some (.int 0)) I L P 205
    ) ∧ (¬ p2 ≤ p3 →
      Q (some (.int 1)) I L P 205
    ))
  ) ∧
  (p1 = 266 →
    ((p2 = 0 →
      Q (some (.int 0)) I L P 205
    ) ∧ (¬ p2 = 0 →
      ((p3 = 0 →
        Q (some (.int 0)) I L P 205
      ) ∧ (¬ p3 = 0 →
        Q (some (.int 1)) I L P 205
      ))
    ))
  ) ∧
  (¬ p1 = 42 → ¬ p1 = 43 → ¬ p1 = 45 → ¬ p1 = 47 → ¬ p1 = 60 → ¬ p1 = 61 → ¬ p1 = 62 → ¬ p1 = 266 →
    ((¬ p2 = 0 →
      Q (some (.int 1)) I L P 205
    ) ∧ (p2 = 0 →
      ((p3 = 0 →
        Q (some (.int 0)) I L P 205
      ) ∧ (¬ p3 = 0 →
        Q (some (.int 1)) I L P 205
      ))
    ))
  )
set_option maxRecDepth 20000 in
theorem g_X4_joined {d : Nat} {Q : zQt} {p1 : Int32} {p2 : Int32} {p3 : Int32} {I : zI} {L : zL} {P : zP} (hP : zPk P) (hv : v_X4_joined d Q p1 p2 p3 I L P) : zM zm_X4_joined d 0 0 [.int p1, .int p2, .int p3] I L P 205 Q := by
  unfold v_X4_joined at hv
  refine zM_of (lv0 := [some (.int p1), some (.int p2), some (.int p3)]) (by decide +kernel) (Nat.le_of_ble_eq_true rfl) rfl ?_
  refine z_iload_n dX4_joined_0 rfl ?_
  by_cases q10 : p1 = 42
  · have hv := hv.1 q10
    refine z_lookup (off := 83) (tgt := 84) dX4_joined_1 (by decide) (by rw [q10]; decide) (by decide) ?_
    refine z_iload_n dX4_joined_84 rfl ?_
    refine z_iload_n dX4_joined_85 rfl ?_
    refine z_imul dX4_joined_86 ?_
    exact z_ireturn dX4_joined_87 rfl rfl (Nat.le_refl _) (Nat.le_refl _) hv
  by_cases q11 : p1 = 43
  · have hv := hv.2.1 q11
    refine z_lookup (off := 75) (tgt := 76) dX4_joined_1 (by decide) (by rw [q11]; decide) (by decide) ?_
    refine z_iload_n dX4_joined_76 rfl ?_
    refine z_iload_n dX4_joined_77 rfl ?_
    refine z_iadd dX4_joined_78 ?_
    exact z_ireturn dX4_joined_79 rfl rfl (Nat.le_refl _) (Nat.le_refl _) hv
  by_cases q12 : p1 = 45
  · have hv := hv.2.2.1 q12
    refine z_lookup (off := 79) (tgt := 80) dX4_joined_1 (by decide) (by rw [q12]; decide) (by decide) ?_
    refine z_iload_n dX4_joined_80 rfl ?_
    refine z_iload_n dX4_joined_81 rfl ?_
    refine z_isub dX4_joined_82 ?_
    exact z_ireturn dX4_joined_83 rfl rfl (Nat.le_refl _) (Nat.le_refl _) hv
  by_cases q13 : p1 = 47
  · have hv := hv.2.2.2.1 q13
    refine z_lookup (off := 87) (tgt := 88) dX4_joined_1 (by decide) (by rw [q13]; decide) (by decide) ?_
    refine z_iload_n dX4_joined_88 rfl ?_
    refine z_if_ne (tgt := 96) dX4_joined_89 (by decide) (fun q1 => ?_) (fun q1 => ?_)
    · have hv := hv.1 q1
      refine z_iload_n dX4_joined_96 rfl ?_
      refine z_iload_n dX4_joined_97 rfl ?_
      obtain ⟨h2, hv⟩ := hv
      refine z_idiv dX4_joined_98 h2 ?_
      exact z_ireturn dX4_joined_99 rfl rfl (Nat.le_refl _) (Nat.le_refl _) hv
    · have hv := hv.2 q1
      refine z_iconst (v := 0) dX4_joined_92 (by decide) ?_
      refine z_goto (tgt := 99) dX4_joined_93 (by decide) ?_
      exact z_ireturn dX4_joined_99 rfl rfl (Nat.le_refl _) (Nat.le_refl _) hv
  by_cases q14 : p1 = 60
  · have hv := hv.2.2.2.2.1 q14
    refine z_lookup (off := 99) (tgt := 100) dX4_joined_1 (by decide) (by rw [q14]; decide) (by decide) ?_
    refine z_iload_n dX4_joined_100 rfl ?_
    refine z_iload_n dX4_joined_101 rfl ?_
    refine z_icmp_ge (tgt := 109) dX4_joined_102 (by decide) (fun q3 => ?_) (fun q3 => ?_)
    · have hv := hv.1 q3
      refine z_iconst (v := 0) dX4_joined_109 (by decide) ?_
      exact z_ireturn dX4_joined_110 rfl rfl (Nat.le_refl _) (Nat.le_refl _) hv
    · have hv := hv.2 q3
      refine z_iconst (v := 1) dX4_joined_105 (by decide) ?_
      refine z_goto (tgt := 110) dX4_joined_106 (by decide) ?_
      exact z_ireturn dX4_joined_110 rfl rfl (Nat.le_refl _) (Nat.le_refl _) hv
  by_cases q15 : p1 = 61
  · have hv := hv.2.2.2.2.2.1 q15
    refine z_lookup (off := 121) (tgt := 122) dX4_joined_1 (by decide) (by rw [q15]; decide) (by decide) ?_
    refine z_iload_n dX4_joined_122 rfl ?_
    refine z_iload_n dX4_joined_123 rfl ?_
    refine z_icmp_ne (tgt := 131) dX4_joined_124 (by decide) (fun q4 => ?_) (fun q4 => ?_)
    · have hv := hv.1 q4
      refine z_iconst (v := 0) dX4_joined_131 (by decide) ?_
      exact z_ireturn dX4_joined_132 rfl rfl (Nat.le_refl _) (Nat.le_refl _) hv
    · have hv := hv.2 q4
      refine z_iconst (v := 1) dX4_joined_127 (by decide) ?_
      refine z_goto (tgt := 132) dX4_joined_128 (by decide) ?_
      exact z_ireturn dX4_joined_132 rfl rfl (Nat.le_refl _) (Nat.le_refl _) hv
  by_cases q16 : p1 = 62
  · have hv := hv.2.2.2.2.2.2.1 q16
    refine z_lookup (off := 110) (tgt := 111) dX4_joined_1 (by decide) (by rw [q16]; decide) (by decide) ?_
    refine z_iload_n dX4_joined_111 rfl ?_
    refine z_iload_n dX4_joined_112 rfl ?_
    refine z_icmp_le (tgt := 120) dX4_joined_113 (by decide) (fun q5 => ?_) (fun q5 => ?_)
    · have hv := hv.1 q5
      refine z_iconst (v := 0) dX4_joined_120 (by decide) ?_
      exact z_ireturn dX4_joined_121 rfl rfl (Nat.le_refl _) (Nat.le_refl _) hv
    · have hv := hv.2 q5
      refine z_iconst (v := 1) dX4_joined_116 (by decide) ?_
      refine z_goto (tgt := 121) dX4_joined_117 (by decide) ?_
      exact z_ireturn dX4_joined_121 rfl rfl (Nat.le_refl _) (Nat.le_refl _) hv
  by_cases q17 : p1 = 266
  · have hv := hv.2.2.2.2.2.2.2.1 q17
    refine z_lookup (off := 132) (tgt := 133) dX4_joined_1 (by decide) (by rw [q17]; decide) (by decide) ?_
    refine z_iload_n dX4_joined_133 rfl ?_
    refine z_if_eq (tgt := 145) dX4_joined_134 (by decide) (fun q6 => ?_) (fun q6 => ?_)
    · have hv := hv.1 q6
      refine z_iconst (v := 0) dX4_joined_145 (by decide) ?_
      exact z_ireturn dX4_joined_146 rfl rfl (Nat.le_refl _) (Nat.le_refl _) hv
    · have hv := hv.2 q6
      refine z_iload_n dX4_joined_137 rfl ?_
      refine z_if_eq (tgt := 145) dX4_joined_138 (by decide) (fun q7 => ?_) (fun q7 => ?_)
      · have hv := hv.1 q7
        refine z_iconst (v := 0) dX4_joined_145 (by decide) ?_
        exact z_ireturn dX4_joined_146 rfl rfl (Nat.le_refl _) (Nat.le_refl _) hv
      · have hv := hv.2 q7
        refine z_iconst (v := 1) dX4_joined_141 (by decide) ?_
        refine z_goto (tgt := 146) dX4_joined_142 (by decide) ?_
        exact z_ireturn dX4_joined_146 rfl rfl (Nat.le_refl _) (Nat.le_refl _) hv
  have hv := hv.2.2.2.2.2.2.2.2 q10 q11 q12 q13 q14 q15 q16 q17
  refine z_lookup (off := 146) (tgt := 147) dX4_joined_1 (by decide) ((lv_osw q10 (by decide)).trans ((lv_osw q11 (by decide)).trans ((lv_osw q12 (by decide)).trans ((lv_osw q13 (by decide)).trans ((lv_osw q14 (by decide)).trans ((lv_osw q15 (by decide)).trans ((lv_osw q16 (by decide)).trans ((lv_osw q17 (by decide)).trans rfl)))))))) (by decide) ?_
  refine z_iload_n dX4_joined_147 rfl ?_
  refine z_if_ne (tgt := 155) dX4_joined_148 (by decide) (fun q8 => ?_) (fun q8 => ?_)
  · have hv := hv.1 q8
    refine z_iconst (v := 1) dX4_joined_155 (by decide) ?_
    refine z_goto (tgt := 160) dX4_joined_156 (by decide) ?_
    exact z_ireturn dX4_joined_160 rfl rfl (Nat.le_refl _) (Nat.le_refl _) hv
  · have hv := hv.2 q8
    refine z_iload_n dX4_joined_151 rfl ?_
    refine z_if_eq (tgt := 159) dX4_joined_152 (by decide) (fun q9 => ?_) (fun q9 => ?_)
    · have hv := hv.1 q9
      refine z_iconst (v := 0) dX4_joined_159 (by decide) ?_
      exact z_ireturn dX4_joined_160 rfl rfl (Nat.le_refl _) (Nat.le_refl _) hv
    · have hv := hv.2 q9
      refine z_iconst (v := 1) dX4_joined_155 (by decide) ?_
      refine z_goto (tgt := 160) dX4_joined_156 (by decide) ?_
      exact z_ireturn dX4_joined_160 rfl rfl (Nat.le_refl _) (Nat.le_refl _) hv
theorem sp_X4_joined {d k : Nat} {a b : Int32} {I : zI} {L : zL} {P : zP} (hP : zPk P) (hk : rkH k ≠ 0) {K : Int32 → zI → zL → zP → Prop} (kk : K (sTwo (nI (mcK k)) a b) I L P) : zMi zm_X4_joined d [.int (nI k), .int a, .int b] I L P K := by
  have ez : ∀ p : Prop, p → bP p = 1 := fun _ => bP_t
  have ef : ∀ p : Prop, ¬ p → bP p = 0 := fun _ => bP_f
  rcases rkH_k hk with rfl | rfl | rfl | rfl | rfl | rfl | rfl | rfl | rfl
  · have kk : K (bP (¬ a = 0 ∧ ¬ b = 0)) I L P := kk
    refine g_X4_joined hP ⟨fun q => absurd q (by decide), fun q => absurd q (by decide), fun q => absurd q (by decide), fun q => absurd q (by decide), fun q => absurd q (by decide), fun q => absurd q (by decide), fun q => absurd q (by decide), fun _ => ⟨fun z => qi ?_, fun z => ⟨fun y => qi ?_, fun y => qi ?_⟩⟩, fun _ _ _ _ _ _ _ q => absurd rfl q⟩
    · rwa [bP_f (fun x => x.1 z)] at kk
    · rwa [bP_f (fun x => x.2 y)] at kk
    · rwa [bP_t ⟨z, y⟩] at kk
  · have kk : K (bP (¬ a = 0 ∨ ¬ b = 0)) I L P := kk
    refine g_X4_joined hP ⟨fun q => absurd q (by decide), fun q => absurd q (by decide), fun q => absurd q (by decide), fun q => absurd q (by decide), fun q => absurd q (by decide), fun q => absurd q (by decide), fun q => absurd q (by decide), fun q => absurd q (by decide), fun _ _ _ _ _ _ _ _ => ⟨fun z => qi ?_, fun z => ⟨fun y => qi ?_, fun y => qi ?_⟩⟩⟩
    · rwa [bP_t (Or.inl z)] at kk
    · rwa [bP_f (fun x => x.elim (fun u => u z) (fun u => u y))] at kk
    · rwa [bP_t (Or.inr y)] at kk
  · have kk : K (bP (¬ b ≤ a)) I L P := kk
    refine g_X4_joined hP ⟨fun q => absurd q (by decide), fun q => absurd q (by decide), fun q => absurd q (by decide), fun q => absurd q (by decide), fun _ => ⟨fun z => qi ?_, fun z => qi ?_⟩, fun q => absurd q (by decide), fun q => absurd q (by decide), fun q => absurd q (by decide), fun _ _ _ _ q => absurd rfl q⟩
    · rwa [bP_f (fun x => x z)] at kk
    · rwa [bP_t z] at kk
  · have kk : K (bP (¬ a ≤ b)) I L P := kk
    refine g_X4_joined hP ⟨fun q => absurd q (by decide), fun q => absurd q (by decide), fun q => absurd q (by decide), fun q => absurd q (by decide), fun q => absurd q (by decide), fun q => absurd q (by decide), fun _ => ⟨fun z => qi ?_, fun z => qi ?_⟩, fun q => absurd q (by decide), fun _ _ _ _ _ _ q => absurd rfl q⟩
    · rwa [bP_f (fun x => x z)] at kk
    · rwa [bP_t z] at kk
  · have kk : K (bP (a = b)) I L P := kk
    refine g_X4_joined hP ⟨fun q => absurd q (by decide), fun q => absurd q (by decide), fun q => absurd q (by decide), fun q => absurd q (by decide), fun q => absurd q (by decide), fun _ => ⟨fun z => qi ?_, fun z => qi ?_⟩, fun q => absurd q (by decide), fun q => absurd q (by decide), fun _ _ _ _ _ q => absurd rfl q⟩
    · rwa [bP_f z] at kk
    · rwa [bP_t z] at kk
  · exact g_X4_joined hP ⟨fun q => absurd q (by decide), fun _ => qi kk, fun q => absurd q (by decide), fun q => absurd q (by decide), fun q => absurd q (by decide), fun q => absurd q (by decide), fun q => absurd q (by decide), fun q => absurd q (by decide), fun _ q => absurd rfl q⟩
  · exact g_X4_joined hP ⟨fun q => absurd q (by decide), fun q => absurd q (by decide), fun _ => qi kk, fun q => absurd q (by decide), fun q => absurd q (by decide), fun q => absurd q (by decide), fun q => absurd q (by decide), fun q => absurd q (by decide), fun _ _ q => absurd rfl q⟩
  · exact g_X4_joined hP ⟨fun _ => qi kk, fun q => absurd q (by decide), fun q => absurd q (by decide), fun q => absurd q (by decide), fun q => absurd q (by decide), fun q => absurd q (by decide), fun q => absurd q (by decide), fun q => absurd q (by decide), fun q => absurd rfl q⟩
  · have kk : K (if b = 0 then 0 else a / b) I L P := kk
    refine g_X4_joined hP ⟨fun q => absurd q (by decide), fun q => absurd q (by decide), fun q => absurd q (by decide), fun _ => ⟨fun z => ⟨z, qi ?_⟩, fun z => qi ?_⟩, fun q => absurd q (by decide), fun q => absurd q (by decide), fun q => absurd q (by decide), fun q => absurd q (by decide), fun _ _ _ q => absurd rfl q⟩
    · rwa [if_neg z] at kk
    · rwa [if_pos z] at kk
abbrev gw_X4_negate (d : Nat) (Q : zQt) (pc : Nat) (lv : zV) (st : List Value) (I : zI) (L : zL) (P : zP) : Prop := zW zm_X4_negate (zRm d 0 0) 0 0 Q pc lv st I L P 205 0 0
abbrev v_X4_negate_2 (d : Nat) (Q : zQt) (p1 : Nat) (p2 : Nat) (x2 : Int32) (I : zI) (L : zL) (P : zP) : Prop :=
  (p1 < 205 ∧ (zsh p1).1 = 5) ∧
  (((I p1 3) ≤ x2 →
    Q none I L P 205
  ) ∧ (¬ (I p1 3) ≤ x2 →
    ∃ b3 : Nat, P p1 2 = some b3 ∧
    ∃ n6, (b3 < 205 ∧ zsh b3 = (100, n6)) ∧
    vp_in x2 n6 ∧
    ∃ n9, (p2 < 205 ∧ zsh p2 = (100, n9)) ∧
    vp_in (I b3 x2.toNatClampNeg) n9 ∧
    ((¬ (I p2 (I b3 x2.toNatClampNeg).toNatClampNeg) = 0 →
      ∀ I13 : zI, I13 = zuI I p2 (I b3 x2.toNatClampNeg).toNatClampNeg 0 →
      gw_X4_negate d Q 2 [some (.ref p1), some (.ref p2), some (.int (x2 + 1)), none] [] I13 L P
    ) ∧ ((I p2 (I b3 x2.toNatClampNeg).toNatClampNeg) = 0 →
      ∀ I15 : zI, I15 = zuI I p2 (I b3 x2.toNatClampNeg).toNatClampNeg 1 →
      gw_X4_negate d Q 2 [some (.ref p1), some (.ref p2), some (.int (x2 + 1)), none] [] I15 L P
    ))
  ))
set_option maxRecDepth 20000 in
theorem g_X4_negate_2 {d : Nat} {Q : zQt} {p1 : Nat} {p2 : Nat} {x2 : Int32} {I : zI} {L : zL} {P : zP} (hP : zPk P) (hv : v_X4_negate_2 d Q p1 p2 x2 I L P) : gw_X4_negate d Q 2 [some (.ref p1), some (.ref p2), some (.int x2), none] [] I L P := by
  unfold v_X4_negate_2 at hv
  refine z_iload_n dX4_negate_2 rfl ?_
  refine z_aload_n dX4_negate_3 rfl ?_
  obtain ⟨h1, hv⟩ := hv
  refine z_getI dX4_negate_4 zf_X4_95 h1.1 h1.2 (fun _ _ _ _ _ => rfl) ?_
  refine z_icmp_ge (tgt := 37) dX4_negate_7 (by decide) (fun q2 => ?_) (fun q2 => ?_)
  · have hv := hv.1 q2
    exact z_return dX4_negate_37 rfl (Nat.le_refl _) (Nat.le_refl _) hv
  · have hv := hv.2 q2
    refine z_aload_n dX4_negate_10 rfl ?_
    obtain ⟨b3, h4, hv⟩ := hv
    refine z_getP dX4_negate_11 zf_X4_98 h1.1 h1.2 (fun _ _ _ _ _ => rfl) h4 ?_
    refine z_iload_n dX4_negate_14 rfl ?_
    obtain ⟨n6, h5, hv⟩ := hv
    obtain ⟨h7, hv⟩ := hv
    refine z_iaload dX4_negate_15 h5.1 h5.2 h7 ?_
    refine z_istore_n (lv2 := [some (.ref p1), some (.ref p2), some (.int x2), some (.int (I b3 x2.toNatClampNeg))]) dX4_negate_16 (by decide) rfl rfl ?_
    refine z_aload_n dX4_negate_17 rfl ?_
    refine z_iload_n dX4_negate_18 rfl ?_
    refine z_aload_n dX4_negate_19 rfl ?_
    refine z_iload_n dX4_negate_20 rfl ?_
    obtain ⟨n9, h8, hv⟩ := hv
    obtain ⟨h10, hv⟩ := hv
    refine z_iaload dX4_negate_21 h8.1 h8.2 h10 ?_
    refine z_if_ne (tgt := 29) dX4_negate_22 (by decide) (fun q11 => ?_) (fun q11 => ?_)
    · have hv := hv.1 q11
      refine z_iconst (v := 0) dX4_negate_29 (by decide) ?_
      refine z_iastore dX4_negate_30 h8.1 h8.2 h10 (z_nmI (fun I13 e12 => ?_))
      have hv := hv I13 e12
      refine z_iinc (v2 := x2 + 1) (lv2 := [some (.ref p1), some (.ref p2), some (.int (x2 + 1)), some (.int (I b3 x2.toNatClampNeg))]) dX4_negate_31 rfl (by rfl) (by decide) rfl rfl ?_
      refine z_goto (tgt := 2) dX4_negate_34 (by decide) ?_
      exact z_sub (by exact ⟨rfl, ⟨rfl, ⟨rfl, trivial⟩⟩⟩) hv
    · have hv := hv.2 q11
      refine z_iconst (v := 1) dX4_negate_25 (by decide) ?_
      refine z_goto (tgt := 30) dX4_negate_26 (by decide) ?_
      refine z_iastore dX4_negate_30 h8.1 h8.2 h10 (z_nmI (fun I15 e14 => ?_))
      have hv := hv I15 e14
      refine z_iinc (v2 := x2 + 1) (lv2 := [some (.ref p1), some (.ref p2), some (.int (x2 + 1)), some (.int (I b3 x2.toNatClampNeg))]) dX4_negate_31 rfl (by rfl) (by decide) rfl rfl ?_
      refine z_goto (tgt := 2) dX4_negate_34 (by decide) ?_
      exact z_sub (by exact ⟨rfl, ⟨rfl, ⟨rfl, trivial⟩⟩⟩) hv
abbrev v_X4_negate (d : Nat) (Q : zQt) (p1 : Nat) (p2 : Nat) (I : zI) (L : zL) (P : zP) : Prop :=
  gw_X4_negate d Q 2 [some (.ref p1), some (.ref p2), some (.int 0), none] [] I L P
set_option maxRecDepth 20000 in
theorem g_X4_negate {d : Nat} {Q : zQt} {p1 : Nat} {p2 : Nat} {I : zI} {L : zL} {P : zP} (hP : zPk P) (hv : v_X4_negate d Q p1 p2 I L P) : zM zm_X4_negate d 0 0 [.ref p1, .ref p2] I L P 205 Q := by
  unfold v_X4_negate at hv
  refine zM_of (lv0 := [some (.ref p1), some (.ref p2), none, none]) (by decide +kernel) (Nat.le_of_ble_eq_true rfl) rfl ?_
  refine z_iconst (v := 0) dX4_negate_0 (by decide) ?_
  refine z_istore_n (lv2 := [some (.ref p1), some (.ref p2), some (.int 0), none]) dX4_negate_1 (by decide) rfl rfl ?_
  exact hv
theorem sp_X4_negate {d : Nat} {I : zI} {L : zL} {P : zP} {s l v r : Nat} {xs : List Nat} (hP : zPk P) (hsc : sc s l v) (hr : 25 ≤ r ∧ r ≤ 68) (hS : cS s l I xs) (hNd : xs.Nodup) {K : zI → zL → zP → Prop}
    (kk : ∀ I', cFr [r] I I' → (∀ w ∈ xs, I' r w = if I r w = 0 then 1 else 0) → K I' L P) : zMv zm_X4_negate d [.ref s, .ref r] I L P K := by
  obtain ⟨p1, p2, p3, p4⟩ := sc_P hsc hP
  have hsc2 := hsc
  unfold sc at hsc2
  have key : ∀ ys zs J, xs = zs ++ ys → cFr [r] I J → (∀ w ∈ zs, J r w = if I r w = 0 then 1 else 0) → (∀ w ∈ ys, J r w = I r w) → gw_X4_negate d (fun v I' L' P' nx' => nx' = 205 ∧ v = none ∧ K I' L' P') 2 [some (.ref s), some (.ref r), some (.int (nI zs.length)), none] [] J L P := by
    intro ys
    induction ys with
    | nil =>
      intro zs J e hf h1 h2
      rw [List.append_nil] at e
      subst e
      have hS1 := cS_c hS (show J s 3 = I s 3 by rw [hf s (by simp only [List.mem_cons, List.not_mem_nil, or_false]; omega)]) (hf l (by simp only [List.mem_cons, List.not_mem_nil, or_false]; omega))
      exact g_X4_negate_2 hP ⟨p1, fun _ => qv (kk J hf h1), fun q => absurd (cS_end hS1) q⟩
    | cons x ys ih =>
      intro zs J e hf h1 h2
      have hS1 := cS_c hS (show J s 3 = I s 3 by rw [hf s (by simp only [List.mem_cons, List.not_mem_nil, or_false]; omega)]) (hf l (by simp only [List.mem_cons, List.not_mem_nil, or_false]; omega))
      obtain ⟨a1, a2, a3, a4, a5, a6, a7, a8, a9⟩ := cS_on hS1 e
      have hnx : x ∉ ys ∧ x ∉ zs := by
        rw [e, List.nodup_append] at hNd
        exact ⟨fun z => (List.nodup_cons.mp hNd.2.1).1 z, fun z => hNd.2.2 x z x (by simp) rfl⟩
      have ex := h2 x (by simp)
      have step : ∀ y : Int32, (y = if I r x = 0 then 1 else 0) → gw_X4_negate d (fun v I' L' P' nx' => nx' = 205 ∧ v = none ∧ K I' L' P') 2 [some (.ref s), some (.ref r), some (.int (nI zs.length + 1)), none] [] (zuI J r x y) L P := by
        intro y ey
        rw [a8]
        refine ih (zs ++ [x]) _ (by rw [e, List.append_assoc]; rfl) (cFr_c hf (by simp)) (fun w hw => ?_) (fun w hw => ?_)
        · rcases mem_snoc.mp hw with z | z
          · rw [zuI_o (show w ≠ x from fun q => hnx.2 (q ▸ z))]; exact h1 w z
          · rw [z, zuI_v, ey]
        · rw [zuI_o (show w ≠ x from fun q => hnx.1 (q ▸ hw))]; exact h2 w (by simp [hw])
      refine g_X4_negate_2 hP ⟨p1, fun q => absurd q a1, fun _ => ⟨l, p2, 256, p3, a2, 256, rw_s hr, by rw [a3]; exact a6, fun q I1 e1 => ?_, fun q I1 e1 => ?_⟩⟩
      · rw [a3, a5, ex] at q
        rw [a3, a5] at e1
        subst e1
        exact step 0 (by rw [if_neg q])
      · rw [a3, a5, ex] at q
        rw [a3, a5] at e1
        subst e1
        exact step 1 (by rw [if_pos q])
  exact g_X4_negate hP (key xs [] I rfl (cFr_rf _ _) (fun w hw => absurd hw (by simp)) (fun _ _ => rfl))
abbrev gw_X4_pushLeaf (d : Nat) (Q : zQt) (pc : Nat) (lv : zV) (st : List Value) (I : zI) (L : zL) (P : zP) : Prop := zW zm_X4_pushLeaf (zRm d 0 0) 0 0 Q pc lv st I L P 205 0 0
abbrev v_X4_pushLeaf_34 (d : Nat) (Q : zQt) (p1 : Nat) (p2 : Int32) (p3 : Int32) (x4 : Nat) (x5 : Int32) (I : zI) (L : zL) (P : zP) : Prop :=
  (p1 < 205 ∧ (zsh p1).1 = 5) ∧
  (((I p1 3) ≤ x5 →
    Q none I L P 205
  ) ∧ (¬ (I p1 3) ≤ x5 →
    ∃ b9 : Nat, P p1 2 = some b9 ∧
    ∃ n12, (b9 < 205 ∧ zsh b9 = (100, n12)) ∧
    vp_in x5 n12 ∧
    zMi zm_X4_leaf d [.int p2, .int p3, .int (I b9 x5.toNatClampNeg), .int (I p1 4)] I L P (fun r18 I14 L15 P16 =>
      ∃ n20, (x4 < 205 ∧ zsh x4 = (100, n20)) ∧
      vp_in (I b9 x5.toNatClampNeg) n20 ∧
      ∀ I23 : zI, I23 = zuI I14 x4 (I b9 x5.toNatClampNeg).toNatClampNeg r18 →
      gw_X4_pushLeaf (d + 1) Q 34 [none, some (.ref p1), some (.int p2), some (.int p3), some (.ref x4), some (.int (x5 + 1)), none] [] I23 L15 P16
    )
  ))
set_option maxRecDepth 20000 in
theorem g_X4_pushLeaf_34 {d : Nat} {Q : zQt} {p1 : Nat} {p2 : Int32} {p3 : Int32} {x4 : Nat} {x5 : Int32} {I : zI} {L : zL} {P : zP} (hP : zPk P) (hv : v_X4_pushLeaf_34 d Q p1 p2 p3 x4 x5 I L P) : gw_X4_pushLeaf (d + 1) Q 34 [none, some (.ref p1), some (.int p2), some (.int p3), some (.ref x4), some (.int x5), none] [] I L P := by
  unfold v_X4_pushLeaf_34 at hv
  refine z_iload dX4_pushLeaf_34 rfl ?_
  refine z_aload_n dX4_pushLeaf_36 rfl ?_
  obtain ⟨h7, hv⟩ := hv
  refine z_getI dX4_pushLeaf_37 zf_X4_95 h7.1 h7.2 (fun _ _ _ _ _ => rfl) ?_
  refine z_icmp_ge (tgt := 74) dX4_pushLeaf_40 (by decide) (fun q8 => ?_) (fun q8 => ?_)
  · have hv := hv.1 q8
    exact z_return dX4_pushLeaf_74 rfl (Nat.le_refl _) (Nat.le_refl _) hv
  · have hv := hv.2 q8
    refine z_aload_n dX4_pushLeaf_43 rfl ?_
    obtain ⟨b9, h10, hv⟩ := hv
    refine z_getP dX4_pushLeaf_44 zf_X4_98 h7.1 h7.2 (fun _ _ _ _ _ => rfl) h10 ?_
    refine z_iload dX4_pushLeaf_47 rfl ?_
    obtain ⟨n12, h11, hv⟩ := hv
    obtain ⟨h13, hv⟩ := hv
    refine z_iaload dX4_pushLeaf_49 h11.1 h11.2 h13 ?_
    refine z_istore (lv2 := [none, some (.ref p1), some (.int p2), some (.int p3), some (.ref x4), some (.int x5), some (.int (I b9 x5.toNatClampNeg))]) dX4_pushLeaf_50 (by decide) rfl rfl ?_
    refine z_aload dX4_pushLeaf_52 rfl ?_
    refine z_iload dX4_pushLeaf_54 rfl ?_
    refine z_iload_n dX4_pushLeaf_56 rfl ?_
    refine z_iload_n dX4_pushLeaf_57 rfl ?_
    refine z_iload dX4_pushLeaf_58 rfl ?_
    refine z_aload_n dX4_pushLeaf_60 rfl ?_
    refine z_getI dX4_pushLeaf_61 zf_X4_101 h7.1 h7.2 (fun _ _ _ _ _ => rfl) ?_
    refine z_callS (As := [.int p2, .int p3, .int (I b9 x5.toNatClampNeg), .int (I p1 4)]) (st := [.int (I b9 x5.toNatClampNeg), .ref x4]) dX4_pushLeaf_64 zl_X4_104 zs_X4_leaf rfl rfl (Nat.le_of_ble_eq_true rfl) ⟨Nat.le_refl _, Nat.le_refl _⟩ ⟨Nat.le_refl _, Nat.le_refl _⟩ hv (fun v1 I14 L15 P16 nx1 q17 => ?_)
    obtain ⟨rfl, r18, rfl, hv⟩ := q17
    obtain ⟨n20, h19, hv⟩ := hv
    obtain ⟨h21, hv⟩ := hv
    refine z_iastore dX4_pushLeaf_67 h19.1 h19.2 h21 (z_nmI (fun I23 e22 => ?_))
    have hv := hv I23 e22
    refine z_iinc (v2 := x5 + 1) (lv2 := [none, some (.ref p1), some (.int p2), some (.int p3), some (.ref x4), some (.int (x5 + 1)), some (.int (I b9 x5.toNatClampNeg))]) dX4_pushLeaf_68 rfl (by rfl) (by decide) rfl rfl ?_
    refine z_goto (tgt := 34) dX4_pushLeaf_71 (by decide) ?_
    exact z_sub (by exact ⟨rfl, ⟨rfl, ⟨rfl, ⟨rfl, ⟨rfl, trivial⟩⟩⟩⟩⟩) hv
abbrev v_X4_pushLeaf (d : Nat) (Q : zQt) (p1 : Nat) (p2 : Int32) (p3 : Int32) (I : zI) (L : zL) (P : zP) : Prop :=
  (((I 23 5) < 44 →
    vp_in (I 23 5) 44 ∧
    ∃ b3 : Nat, P 24 (I 23 5).toNatClampNeg = some b3 ∧
    ∀ I5 : zI, I5 = zuI I 23 5 ((I 23 5) + 1) →
    gw_X4_pushLeaf (d + 1) Q 34 [none, some (.ref p1), some (.int p2), some (.int p3), some (.ref b3), some (.int 0), none] [] I5 L P
  ) ∧ (¬ (I 23 5) < 44 →
    Q none I L P 205
  ))
set_option maxRecDepth 20000 in
theorem g_X4_pushLeaf {d : Nat} {Q : zQt} {p1 : Nat} {p2 : Int32} {p3 : Int32} {I : zI} {L : zL} {P : zP} (hP : zPk P) (hv : v_X4_pushLeaf d Q p1 p2 p3 I L P) : zM zm_X4_pushLeaf (d + 1) 0 0 [.ref 23, .ref p1, .int p2, .int p3] I L P 205 Q := by
  unfold v_X4_pushLeaf at hv
  refine zM_of (lv0 := [some (.ref 23), some (.ref p1), some (.int p2), some (.int p3), none, none, none]) (by decide +kernel) (Nat.le_of_ble_eq_true rfl) rfl ?_
  refine z_aload_n dX4_pushLeaf_0 rfl ?_
  refine z_getI dX4_pushLeaf_1 zf_X4_31 zn_23 zo_23 (fun _ _ _ _ _ => rfl) ?_
  refine z_bipush (v := 44) dX4_pushLeaf_4 (by decide) ?_
  refine z_icmp_lt (tgt := 10) dX4_pushLeaf_6 (by decide) (fun q1 => ?_) (fun q1 => ?_)
  · have hv := hv.1 q1
    refine z_aload_n dX4_pushLeaf_10 rfl ?_
    refine z_getP dX4_pushLeaf_11 zf_X4_15 zn_23 zo_23 (fun _ _ _ _ _ => rfl) (hP 23 0 24 zp_23_0) ?_
    refine z_aload_n dX4_pushLeaf_14 rfl ?_
    refine z_getI dX4_pushLeaf_15 zf_X4_31 zn_23 zo_23 (fun _ _ _ _ _ => rfl) ?_
    obtain ⟨h2, hv⟩ := hv
    obtain ⟨b3, h4, hv⟩ := hv
    refine z_aaload dX4_pushLeaf_18 zn_24 zh_24 (Or.inl rfl) h2 h4 ?_
    refine z_astore (lv2 := [some (.ref 23), some (.ref p1), some (.int p2), some (.int p3), some (.ref b3), none, none]) dX4_pushLeaf_19 (by decide) rfl rfl ?_
    refine z_aload_n dX4_pushLeaf_21 rfl ?_
    refine z_dup dX4_pushLeaf_22 rfl ?_
    refine z_getI dX4_pushLeaf_23 zf_X4_31 zn_23 zo_23 (fun _ _ _ _ _ => rfl) ?_
    refine z_iconst (v := 1) dX4_pushLeaf_26 (by decide) ?_
    refine z_iadd dX4_pushLeaf_27 ?_
    refine z_putI dX4_pushLeaf_28 zf_X4_31 zn_23 zo_23 (Or.inl rfl) (fun _ _ _ _ _ => rfl) rfl rfl (z_nmI (fun I5 e6 => ?_))
    have hv := hv I5 e6
    refine z_iconst (v := 0) dX4_pushLeaf_31 (by decide) ?_
    refine z_istore (lv2 := [some (.ref 23), some (.ref p1), some (.int p2), some (.int p3), some (.ref b3), some (.int 0), none]) dX4_pushLeaf_32 (by decide) rfl rfl ?_
    exact z_sub (by exact ⟨rfl, ⟨rfl, ⟨rfl, ⟨rfl, ⟨rfl, trivial⟩⟩⟩⟩⟩) hv
  · have hv := hv.2 q1
    exact z_return dX4_pushLeaf_9 rfl (Nat.le_refl _) (Nat.le_refl _) hv
theorem sp_X4_pushLeaf {d : Nat} {I : zI} {L : zL} {P : zP} {s l v k h : Nat} {x : Int32} {xs : List Nat} (hP : zPk P) (hsc : sc s l v) (hS : cS s l I xs) (hk : k = 274 ∨ k = 268 ∨ k = 262 ∨ k = 269) (hh : h < 44) (h5 : I 23 5 = nI h) (hd : 2 ≤ d) {K : zI → zL → zP → Prop}
    (kk : ∀ I', cFr [23, 25 + h] I I' → I' 23 5 = nI (h + 1) → (∀ w ∈ xs, I' (25 + h) w = sLf (nI (mcK k)) x (I s 4) w) → K I' L P) : zMv zm_X4_pushLeaf d [.ref 23, .ref s, .int (nI k), .int x] I L P K := by
  obtain ⟨d, rfl⟩ : ∃ e, d = e + 1 := ⟨d - 1, by omega⟩
  obtain ⟨p1, p2, p3, p4⟩ := sc_P hsc hP
  have hsc2 := hsc
  unfold sc at hsc2
  obtain ⟨r1, r2⟩ := rw_k h hh
  have key : ∀ ys zs J, xs = zs ++ ys → cFr [23, 25 + h] I J → J 23 5 = nI (h + 1) → (∀ w ∈ zs, J (25 + h) w = sLf (nI (mcK k)) x (I s 4) w) → gw_X4_pushLeaf (d + 1) (fun v I' L' P' nx' => nx' = 205 ∧ v = none ∧ K I' L' P') 34 [none, some (.ref s), some (.int (nI k)), some (.int x), some (.ref (25 + h)), some (.int (nI zs.length)), none] [] J L P := by
    intro ys
    induction ys with
    | nil =>
      intro zs J e hf h0 h1
      rw [List.append_nil] at e
      subst e
      have hS1 := cS_c hS (show J s 3 = I s 3 by rw [hf s (by simp only [List.mem_cons, List.not_mem_nil, or_false]; omega)]) (hf l (by simp only [List.mem_cons, List.not_mem_nil, or_false]; omega))
      exact g_X4_pushLeaf_34 hP ⟨p1, fun _ => qv (kk J hf h0 h1), fun q => absurd (cS_end hS1) q⟩
    | cons y ys ih =>
      intro zs J e hf h0 h1
      have hS1 := cS_c hS (show J s 3 = I s 3 by rw [hf s (by simp only [List.mem_cons, List.not_mem_nil, or_false]; omega)]) (hf l (by simp only [List.mem_cons, List.not_mem_nil, or_false]; omega))
      obtain ⟨a1, a2, a3, a4, a5, a6, a7, a8, a9⟩ := cS_on hS1 e
      refine g_X4_pushLeaf_34 hP ⟨p1, fun q => absurd q a1, fun _ => ⟨l, p2, 256, p3, a2, ?_⟩⟩
      rw [a3]
      refine sp_X4_leaf hP a4 hk (by omega) ⟨256, r2, a6, fun I1 e1 => ?_⟩
      rw [a5, hf s (by simp only [List.mem_cons, List.not_mem_nil, or_false]; omega)] at e1
      subst e1
      rw [a8]
      refine ih (zs ++ [y]) _ (by rw [e, List.append_assoc]; rfl) (cFr_c hf (by simp)) (by rw [zuI_ne (by omega)]; exact h0) (fun w hw => ?_)
      by_cases hgw : w = y
      · rw [hgw, zuI_v]
      · rw [zuI_o hgw]
        rcases mem_snoc.mp hw with z | z
        · exact h1 w z
        · exact absurd z hgw
  refine g_X4_pushLeaf hP ⟨fun _ => ⟨by rw [h5]; exact nx_in hh (by decide), 25 + h, ?_, fun I1 e1 => ?_⟩, fun q => absurd ?_ q⟩
  · rw [h5, nI_cl (by omega)]; exact hP _ _ _ r1
  · rw [h5, nI_1] at e1
    subst e1
    exact key xs [] _ rfl (cFr_c (cFr_rf _ _) (by simp)) (zuI_v _ _ _ _) (fun w hw => absurd hw (by simp))
  · rw [h5]; exact nI_lt hh (by decide)
abbrev gw_X4_joinTop (d : Nat) (Q : zQt) (pc : Nat) (lv : zV) (st : List Value) (I : zI) (L : zL) (P : zP) : Prop := zW zm_X4_joinTop (zRm d 0 0) 0 0 Q pc lv st I L P 205 0 0
abbrev v_X4_joinTop_45 (d : Nat) (Q : zQt) (p1 : Nat) (p2 : Int32) (x3 : Nat) (x4 : Nat) (x5 : Int32) (I : zI) (L : zL) (P : zP) : Prop :=
  (p1 < 205 ∧ (zsh p1).1 = 5) ∧
  (((I p1 3) ≤ x5 →
    Q none I L P 205
  ) ∧ (¬ (I p1 3) ≤ x5 →
    ∃ b12 : Nat, P p1 2 = some b12 ∧
    ∃ n15, (b12 < 205 ∧ zsh b12 = (100, n15)) ∧
    vp_in x5 n15 ∧
    ∃ n18, (x3 < 205 ∧ zsh x3 = (100, n18)) ∧
    vp_in (I b12 x5.toNatClampNeg) n18 ∧
    ∃ n21, (x4 < 205 ∧ zsh x4 = (100, n21)) ∧
    vp_in (I b12 x5.toNatClampNeg) n21 ∧
    zMi zm_X4_joined d [.int p2, .int (I x3 (I b12 x5.toNatClampNeg).toNatClampNeg), .int (I x4 (I b12 x5.toNatClampNeg).toNatClampNeg)] I L P (fun r27 I23 L24 P25 =>
      ∀ I29 : zI, I29 = zuI I23 x3 (I b12 x5.toNatClampNeg).toNatClampNeg r27 →
      gw_X4_joinTop (d + 1) Q 45 [none, some (.ref p1), some (.int p2), some (.ref x3), some (.ref x4), some (.int (x5 + 1)), none] [] I29 L24 P25
    )
  ))
set_option maxRecDepth 20000 in
theorem g_X4_joinTop_45 {d : Nat} {Q : zQt} {p1 : Nat} {p2 : Int32} {x3 : Nat} {x4 : Nat} {x5 : Int32} {I : zI} {L : zL} {P : zP} (hP : zPk P) (hv : v_X4_joinTop_45 d Q p1 p2 x3 x4 x5 I L P) : gw_X4_joinTop (d + 1) Q 45 [none, some (.ref p1), some (.int p2), some (.ref x3), some (.ref x4), some (.int x5), none] [] I L P := by
  unfold v_X4_joinTop_45 at hv
  refine z_iload dX4_joinTop_45 rfl ?_
  refine z_aload_n dX4_joinTop_47 rfl ?_
  obtain ⟨h10, hv⟩ := hv
  refine z_getI dX4_joinTop_48 zf_X4_95 h10.1 h10.2 (fun _ _ _ _ _ => rfl) ?_
  refine z_icmp_ge (tgt := 86) dX4_joinTop_51 (by decide) (fun q11 => ?_) (fun q11 => ?_)
  · have hv := hv.1 q11
    exact z_return dX4_joinTop_86 rfl (Nat.le_refl _) (Nat.le_refl _) hv
  · have hv := hv.2 q11
    refine z_aload_n dX4_joinTop_54 rfl ?_
    obtain ⟨b12, h13, hv⟩ := hv
    refine z_getP dX4_joinTop_55 zf_X4_98 h10.1 h10.2 (fun _ _ _ _ _ => rfl) h13 ?_
    refine z_iload dX4_joinTop_58 rfl ?_
    obtain ⟨n15, h14, hv⟩ := hv
    obtain ⟨h16, hv⟩ := hv
    refine z_iaload dX4_joinTop_60 h14.1 h14.2 h16 ?_
    refine z_istore (lv2 := [none, some (.ref p1), some (.int p2), some (.ref x3), some (.ref x4), some (.int x5), some (.int (I b12 x5.toNatClampNeg))]) dX4_joinTop_61 (by decide) rfl rfl ?_
    refine z_aload_n dX4_joinTop_63 rfl ?_
    refine z_iload dX4_joinTop_64 rfl ?_
    refine z_iload_n dX4_joinTop_66 rfl ?_
    refine z_aload_n dX4_joinTop_67 rfl ?_
    refine z_iload dX4_joinTop_68 rfl ?_
    obtain ⟨n18, h17, hv⟩ := hv
    obtain ⟨h19, hv⟩ := hv
    refine z_iaload dX4_joinTop_70 h17.1 h17.2 h19 ?_
    refine z_aload dX4_joinTop_71 rfl ?_
    refine z_iload dX4_joinTop_73 rfl ?_
    obtain ⟨n21, h20, hv⟩ := hv
    obtain ⟨h22, hv⟩ := hv
    refine z_iaload dX4_joinTop_75 h20.1 h20.2 h22 ?_
    refine z_callS (As := [.int p2, .int (I x3 (I b12 x5.toNatClampNeg).toNatClampNeg), .int (I x4 (I b12 x5.toNatClampNeg).toNatClampNeg)]) (st := [.int (I b12 x5.toNatClampNeg), .ref x3]) dX4_joinTop_76 zl_X4_113 zs_X4_joined rfl rfl (Nat.le_of_ble_eq_true rfl) ⟨Nat.le_refl _, Nat.le_refl _⟩ ⟨Nat.le_refl _, Nat.le_refl _⟩ hv (fun v1 I23 L24 P25 nx1 q26 => ?_)
    obtain ⟨rfl, r27, rfl, hv⟩ := q26
    refine z_iastore dX4_joinTop_79 h17.1 h17.2 h19 (z_nmI (fun I29 e28 => ?_))
    have hv := hv I29 e28
    refine z_iinc (v2 := x5 + 1) (lv2 := [none, some (.ref p1), some (.int p2), some (.ref x3), some (.ref x4), some (.int (x5 + 1)), some (.int (I b12 x5.toNatClampNeg))]) dX4_joinTop_80 rfl (by rfl) (by decide) rfl rfl ?_
    refine z_goto (tgt := 45) dX4_joinTop_83 (by decide) ?_
    exact z_sub (by exact ⟨rfl, ⟨rfl, ⟨rfl, ⟨rfl, ⟨rfl, trivial⟩⟩⟩⟩⟩) hv
abbrev v_X4_joinTop (d : Nat) (Q : zQt) (p1 : Nat) (p2 : Int32) (I : zI) (L : zL) (P : zP) : Prop :=
  ((2 ≤ (I 23 5) →
    ∀ I2 : zI, I2 = zuI I 23 5 ((I 23 5) - 1) →
    vp_in ((I2 23 5) - 1) 44 ∧
    ∃ b5 : Nat, P 24 ((I2 23 5) - 1).toNatClampNeg = some b5 ∧
    vp_in (I2 23 5) 44 ∧
    ∃ b8 : Nat, P 24 (I2 23 5).toNatClampNeg = some b8 ∧
    gw_X4_joinTop (d + 1) Q 45 [none, some (.ref p1), some (.int p2), some (.ref b5), some (.ref b8), some (.int 0), none] [] I2 L P
  ) ∧ (¬ 2 ≤ (I 23 5) →
    Q none I L P 205
  ))
set_option maxRecDepth 20000 in
theorem g_X4_joinTop {d : Nat} {Q : zQt} {p1 : Nat} {p2 : Int32} {I : zI} {L : zL} {P : zP} (hP : zPk P) (hv : v_X4_joinTop d Q p1 p2 I L P) : zM zm_X4_joinTop (d + 1) 0 0 [.ref 23, .ref p1, .int p2] I L P 205 Q := by
  unfold v_X4_joinTop at hv
  refine zM_of (lv0 := [some (.ref 23), some (.ref p1), some (.int p2), none, none, none, none]) (by decide +kernel) (Nat.le_of_ble_eq_true rfl) rfl ?_
  refine z_aload_n dX4_joinTop_0 rfl ?_
  refine z_getI dX4_joinTop_1 zf_X4_31 zn_23 zo_23 (fun _ _ _ _ _ => rfl) ?_
  refine z_iconst (v := 2) dX4_joinTop_4 (by decide) ?_
  refine z_icmp_ge (tgt := 9) dX4_joinTop_5 (by decide) (fun q1 => ?_) (fun q1 => ?_)
  · have hv := hv.1 q1
    refine z_aload_n dX4_joinTop_9 rfl ?_
    refine z_dup dX4_joinTop_10 rfl ?_
    refine z_getI dX4_joinTop_11 zf_X4_31 zn_23 zo_23 (fun _ _ _ _ _ => rfl) ?_
    refine z_iconst (v := 1) dX4_joinTop_14 (by decide) ?_
    refine z_isub dX4_joinTop_15 ?_
    refine z_putI dX4_joinTop_16 zf_X4_31 zn_23 zo_23 (Or.inl rfl) (fun _ _ _ _ _ => rfl) rfl rfl (z_nmI (fun I2 e3 => ?_))
    have hv := hv I2 e3
    refine z_aload_n dX4_joinTop_19 rfl ?_
    refine z_getP dX4_joinTop_20 zf_X4_15 zn_23 zo_23 (fun _ _ _ _ _ => rfl) (hP 23 0 24 zp_23_0) ?_
    refine z_aload_n dX4_joinTop_23 rfl ?_
    refine z_getI dX4_joinTop_24 zf_X4_31 zn_23 zo_23 (fun _ _ _ _ _ => rfl) ?_
    refine z_iconst (v := 1) dX4_joinTop_27 (by decide) ?_
    refine z_isub dX4_joinTop_28 ?_
    obtain ⟨h4, hv⟩ := hv
    obtain ⟨b5, h6, hv⟩ := hv
    refine z_aaload dX4_joinTop_29 zn_24 zh_24 (Or.inl rfl) h4 h6 ?_
    refine z_astore_n (lv2 := [some (.ref 23), some (.ref p1), some (.int p2), some (.ref b5), none, none, none]) dX4_joinTop_30 (by decide) rfl rfl ?_
    refine z_aload_n dX4_joinTop_31 rfl ?_
    refine z_getP dX4_joinTop_32 zf_X4_15 zn_23 zo_23 (fun _ _ _ _ _ => rfl) (hP 23 0 24 zp_23_0) ?_
    refine z_aload_n dX4_joinTop_35 rfl ?_
    refine z_getI dX4_joinTop_36 zf_X4_31 zn_23 zo_23 (fun _ _ _ _ _ => rfl) ?_
    obtain ⟨h7, hv⟩ := hv
    obtain ⟨b8, h9, hv⟩ := hv
    refine z_aaload dX4_joinTop_39 zn_24 zh_24 (Or.inl rfl) h7 h9 ?_
    refine z_astore (lv2 := [some (.ref 23), some (.ref p1), some (.int p2), some (.ref b5), some (.ref b8), none, none]) dX4_joinTop_40 (by decide) rfl rfl ?_
    refine z_iconst (v := 0) dX4_joinTop_42 (by decide) ?_
    refine z_istore (lv2 := [some (.ref 23), some (.ref p1), some (.int p2), some (.ref b5), some (.ref b8), some (.int 0), none]) dX4_joinTop_43 (by decide) rfl rfl ?_
    exact z_sub (by exact ⟨rfl, ⟨rfl, ⟨rfl, ⟨rfl, ⟨rfl, trivial⟩⟩⟩⟩⟩) hv
  · have hv := hv.2 q1
    exact z_return dX4_joinTop_8 rfl (Nat.le_refl _) (Nat.le_refl _) hv
theorem sp_X4_joinTop {d : Nat} {I : zI} {L : zL} {P : zP} {s l v k h : Nat} {xs : List Nat} (hP : zPk P) (hsc : sc s l v) (hS : cS s l I xs) (hNd : xs.Nodup) (hk : rkH k ≠ 0) (hh : h + 2 ≤ 44) (h5 : I 23 5 = nI (h + 2)) (hd : 1 ≤ d) {K : zI → zL → zP → Prop}
    (kk : ∀ I', cFr [23, 25 + h] I I' → I' 23 5 = nI (h + 1) → (∀ w ∈ xs, I' (25 + h) w = sTwo (nI (mcK k)) (I (25 + h) w) (I (25 + (h + 1)) w)) → K I' L P) : zMv zm_X4_joinTop d [.ref 23, .ref s, .int (nI k)] I L P K := by
  obtain ⟨d, rfl⟩ : ∃ e, d = e + 1 := ⟨d - 1, by omega⟩
  obtain ⟨p1, p2, p3, p4⟩ := sc_P hsc hP
  have hsc2 := hsc
  unfold sc at hsc2
  obtain ⟨r1, r2⟩ := rw_k h (by omega)
  obtain ⟨r3, r4⟩ := rw_k (h + 1) (by omega)
  have key : ∀ ys zs J, xs = zs ++ ys → cFr [23, 25 + h] I J → J 23 5 = nI (h + 1) → (∀ w ∈ zs, J (25 + h) w = sTwo (nI (mcK k)) (I (25 + h) w) (I (25 + (h + 1)) w)) → (∀ w ∈ ys, J (25 + h) w = I (25 + h) w) → gw_X4_joinTop (d + 1) (fun v I' L' P' nx' => nx' = 205 ∧ v = none ∧ K I' L' P') 45 [none, some (.ref s), some (.int (nI k)), some (.ref (25 + h)), some (.ref (25 + (h + 1))), some (.int (nI zs.length)), none] [] J L P := by
    intro ys
    induction ys with
    | nil =>
      intro zs J e hf h0 h1 h2
      rw [List.append_nil] at e
      subst e
      have hS1 := cS_c hS (show J s 3 = I s 3 by rw [hf s (by simp only [List.mem_cons, List.not_mem_nil, or_false]; omega)]) (hf l (by simp only [List.mem_cons, List.not_mem_nil, or_false]; omega))
      exact g_X4_joinTop_45 hP ⟨p1, fun _ => qv (kk J hf h0 h1), fun q => absurd (cS_end hS1) q⟩
    | cons y ys ih =>
      intro zs J e hf h0 h1 h2
      have hS1 := cS_c hS (show J s 3 = I s 3 by rw [hf s (by simp only [List.mem_cons, List.not_mem_nil, or_false]; omega)]) (hf l (by simp only [List.mem_cons, List.not_mem_nil, or_false]; omega))
      obtain ⟨a1, a2, a3, a4, a5, a6, a7, a8, a9⟩ := cS_on hS1 e
      have hnx : y ∉ ys ∧ y ∉ zs := by
        rw [e, List.nodup_append] at hNd
        exact ⟨fun z => (List.nodup_cons.mp hNd.2.1).1 z, fun z => hNd.2.2 y z y (by simp) rfl⟩
      refine g_X4_joinTop_45 hP ⟨p1, fun q => absurd q a1, fun _ => ⟨l, p2, 256, p3, a2, 256, r2, by rw [a3]; exact a6, 256, r4, by rw [a3]; exact a6, ?_⟩⟩
      rw [a3, a5, h2 y (by simp), hf (25 + (h + 1)) (by simp only [List.mem_cons, List.not_mem_nil, or_false]; omega)]
      refine sp_X4_joined hP hk (fun I1 e1 => ?_)
      subst e1
      rw [a8]
      refine ih (zs ++ [y]) _ (by rw [e, List.append_assoc]; rfl) (cFr_c hf (by simp)) (by rw [zuI_ne (by omega)]; exact h0) (fun w hw => ?_) (fun w hw => ?_)
      · by_cases hgw : w = y
        · rw [hgw, zuI_v]
        · rw [zuI_o hgw]
          rcases mem_snoc.mp hw with z | z
          · exact h1 w z
          · exact absurd z hgw
      · rw [zuI_o (show w ≠ y from fun q => hnx.1 (q ▸ hw))]; exact h2 w (by simp [hw])
  refine g_X4_joinTop hP ⟨fun _ I1 e1 => ?_, fun q => absurd ?_ q⟩
  · have e5 : I1 23 5 = nI (h + 1) := by rw [e1, zuI_v, h5, show h + 2 = (h + 1) + 1 from rfl, nI_pred]
    rw [e5, nI_pred, nI_cl (by omega), nI_cl (by omega)]
    refine ⟨nx_in (by omega) (by decide), 25 + h, hP _ _ _ r1, nx_in (by omega) (by decide), 25 + (h + 1), hP _ _ _ r3, ?_⟩
    subst e1
    exact key xs [] _ rfl (cFr_c (cFr_rf _ _) (by simp)) e5 (fun w hw => absurd hw (by simp)) (fun w hw => by rw [zuI_ne (by omega)])
  · rw [h5, show (2 : Int32) = nI 2 from rfl]; exact nI_le (by omega) (by omega)
