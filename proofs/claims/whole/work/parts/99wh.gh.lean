/-! ===== a new model ===== -/
theorem pL_Pk {l : List ((Nat × Nat) × Nat)} (h : zstL.all (fun q => l.lookup q.1 == some q.2) = true) : zPk (pL l) := by
  intro a k b hb
  have hm : ((a, k), b) ∈ zstL := by
    have hb : zstL.lookup (a, k) = some b := hb
    obtain ⟨l1, l2, e, -⟩ := List.lookup_eq_some_iff.mp hb
    rw [e]
    exact List.mem_append_right _ List.mem_cons_self
  have := List.all_eq_true.mp h _ hm
  exact eq_of_beq this
/-- what the model's constructor leaves -/
def mNew (I I' : zI) : Prop := (∀ b, b < 160 → I' b = I b) ∧ I' 160 28 = 0 ∧ (I' 163 0 = 0 ∧ I' 165 0 = 0 ∧ I' 166 0 = 0 ∧ I' 167 0 = 0 ∧ I' 171 0 = 0) ∧ ((∀ w, w < 256 → I' 180 w = bP (w < 1)) ∧ (∀ j, I' 181 j = 0)) ∧ (I' 160 2 = 0 ∧ I' 160 4 = 0 ∧ I' 160 5 = -1) ∧ (I' 160 38 = 0 ∧ I' 160 39 = 0 ∧ I' 160 40 = 0 ∧ I' 160 46 = 0 ∧ I' 160 59 = 0 ∧ I' 160 60 = 0) ∧ (∀ k, k < 3 → I' 199 k = -1) ∧ ∀ k, I' 161 k = 0
theorem mNew_B {I : zI} {L : zL} (h : iM 0 I L A0) (h28 : I 160 28 = 0) : MB I ∧ vN I = 1 := by
  have z : (0 : Int32).toNatClampNeg = 0 := by decide
  have h0 : I 163 0 = 0 := h.2.1.2
  have hb : vB I = 0 := by unfold vB; rw [h28, z]
  have hn : vNp I = 0 := by unfold vNp; rw [hb, h0, z]
  exact ⟨⟨⟨by rw [hb]; omega, by rw [hb, h28]; rfl⟩, by rw [hn]; omega, by rw [hb, hn, h0]; rfl⟩, by unfold vN; rw [hn]⟩
theorem mNew_of {I I1 I2 : zI} {L : zL} {P : zP} (hF : zFz 161 I L P) (hI : ∀ k, I 160 k = 0) (a1 : iM 0 I1 L A0) (a3 : zFr [163, 164, 165, 166, 167, 171, 172] [30, 31, 32] (zuI I 160 5 (-1)) I1) (hn : vN I1 = 1) (hb : zFr [180] [38, 39, 40, 46] I1 I2 ∧ (∀ w, w < 256 → I2 180 w = bP (w < vN I1)) ∧ I2 160 38 = 0 ∧ I2 160 39 = 0 ∧ I2 160 40 = 0 ∧ I2 160 46 = 0) :
    mNew I (zuI (zuI (zuI (zuI I2 199 0 (-1)) 199 1 (-1)) 199 2 (-1)) 199 3 (-1)) := by
  obtain ⟨b1, b2, b3, b4, b5, b6⟩ := hb
  have o : ∀ b, b ≠ 199 → zuI (zuI (zuI (zuI I2 199 0 (-1)) 199 1 (-1)) 199 2 (-1)) 199 3 (-1) b = I2 b := fun b hb => by rw [zuI_ne hb, zuI_ne hb, zuI_ne hb, zuI_ne hb]
  have s0 : ∀ k, k ≠ 5 → zuI I 160 5 (-1) 160 k = 0 := fun k hk => by rw [zuI_o hk]; exact hI k
  have s1 : ∀ k, k ∉ [30, 31, 32] → I1 160 k = zuI I 160 5 (-1) 160 k := a3.2
  have s2 : ∀ k, k ∉ [38, 39, 40, 46] → I2 160 k = I1 160 k := b1.2
  have c2 : ∀ b, b ∉ [180] → b ≠ 160 → I2 b = I1 b := b1.1
  have c1 : ∀ b, b ∉ [163, 164, 165, 166, 167, 171, 172] → b ≠ 160 → I1 b = I b := fun b h1 h2 => by rw [a3.1 b h1 h2, zuI_ne h2]
  refine ⟨fun b hb => ?_, ?_, ⟨?_, ?_, ?_, ?_, ?_⟩, ⟨fun w hw => ?_, fun j => ?_⟩, ⟨?_, ?_, ?_⟩, ⟨?_, ?_, ?_, ?_, ?_, ?_⟩, fun k hk => ?_, fun k => ?_⟩
  · rw [o b (by omega), c2 b (by simp; omega) (by omega), c1 b (by simp only [List.mem_cons, List.not_mem_nil, or_false]; omega) (by omega)]
  · rw [o 160 (by decide), s2 28 (by decide), s1 28 (by decide)]; exact s0 28 (by decide)
  · rw [o 163 (by decide), c2 163 (by decide) (by decide)]; exact a1.2.1.2
  · rw [o 165 (by decide), c2 165 (by decide) (by decide)]; exact a1.2.2.2.2.1.2
  · rw [o 166 (by decide), c2 166 (by decide) (by decide)]; exact a1.2.2.2.2.2.1.2
  · rw [o 167 (by decide), c2 167 (by decide) (by decide)]; exact a1.2.2.1.2
  · rw [o 171 (by decide), c2 171 (by decide) (by decide)]; exact a1.2.2.2.2.2.2.2.1.2
  · rw [o 180 (by decide), b2 w hw, hn]
  · rw [o 181 (by decide), c2 181 (by decide) (by decide), c1 181 (by decide) (by decide)]; exact (hF 181 (by decide) j).1
  · rw [o 160 (by decide), s2 2 (by decide), s1 2 (by decide)]; exact s0 2 (by decide)
  · rw [o 160 (by decide), s2 4 (by decide), s1 4 (by decide)]; exact s0 4 (by decide)
  · rw [o 160 (by decide), s2 5 (by decide), s1 5 (by decide)]; exact zuI_v _ _ _ _
  · rw [o 160 (by decide)]; exact b3
  · rw [o 160 (by decide)]; exact b4
  · rw [o 160 (by decide)]; exact b5
  · rw [o 160 (by decide)]; exact b6
  · rw [o 160 (by decide), s2 59 (by decide), s1 59 (by decide)]; exact s0 59 (by decide)
  · rw [o 160 (by decide), s2 60 (by decide), s1 60 (by decide)]; exact s0 60 (by decide)
  · rcases (show k = 0 ∨ k = 1 ∨ k = 2 by omega) with rfl | rfl | rfl
    · rw [zuI_o (by decide), zuI_o (by decide), zuI_o (by decide), zuI_v]
    · rw [zuI_o (by decide), zuI_o (by decide), zuI_v]
    · rw [zuI_o (by decide), zuI_v]
  · rw [o 161 (by decide), c2 161 (by decide) (by decide), c1 161 (by decide) (by decide)]; exact (hF 161 (by decide) k).1
def lMM : List ((Nat × Nat) × Nat) := ((160, 67), 204) :: ((160, 66), 203) :: ((160, 65), 202) :: ((160, 64), 201) :: ((160, 63), 200) :: ((160, 62), 199) :: ((160, 58), 198) :: ((160, 57), 197) :: ((160, 56), 196) :: ((160, 55), 195) :: ((160, 54), 194) :: ((160, 53), 193) :: ((160, 52), 192) :: ((160, 51), 191) :: ((160, 50), 190) :: ((160, 49), 189) :: ((160, 47), 188) :: ((160, 45), 187) :: ((160, 44), 186) :: ((160, 43), 185) :: ((160, 42), 184) :: ((160, 41), 183) :: ((160, 37), 182) :: ((160, 36), 181) :: ((160, 35), 180) :: ((160, 27), 179) :: ((160, 26), 178) :: ((160, 25), 177) :: ((160, 24), 176) :: ((160, 23), 175) :: ((160, 22), 174) :: ((160, 21), 173) :: ((160, 20), 172) :: ((160, 19), 171) :: ((160, 18), 170) :: ((160, 17), 169) :: ((160, 16), 168) :: ((160, 15), 167) :: ((160, 14), 166) :: ((160, 13), 165) :: ((160, 12), 164) :: ((160, 11), 163) :: ((160, 1), 162) :: ((160, 0), 161) :: lNN
set_option maxRecDepth 20000 in
theorem zPk_MM : zPk (pL lMM) := pL_Pk (by decide +kernel)
set_option maxRecDepth 20000 in
theorem k_X12_init {Q : zQt} {I : zI} {L : zL} (hF : zFz 161 I L (pL lNN)) (hI : ∀ k, I 160 k = 0) (kk : ∀ I', mNew I I' → Q none I' L (pL lMM) 205) : zM zm_X12_init 20 44 33337 [.ref 160] I L (pL lNN) 161 Q := by
  refine zM_of (lv0 := [some (.ref 160), none]) (by decide +kernel) (Nat.le_of_ble_eq_true rfl) rfl ?_
  have h1 := hF
  refine z_aload_n dX12_init_0 rfl ?_
  refine z_objInit dX12_init_1 zl_X12_1 (Nat.le_of_ble_eq_true rfl) ⟨(Nat.le_of_ble_eq_true rfl), (Nat.le_of_ble_eq_true rfl)⟩ ?_
  refine z_aload_n dX12_init_4 rfl ?_
  refine z_sipush (v := 1620) dX12_init_5 (by decide) ?_
  refine z_newB (N := 1620) dX12_init_8 zz_byte (by decide) rfl (by decide) (by decide) (by decide) hF (Nat.le_of_ble_eq_true rfl) (Nat.le_of_ble_eq_true rfl) ?_
  show zW _ _ _ _ _ _ _ _ _ _ _ 162 1 1620
  have hF : zFz 162 _ _ _ := zFz_le hF (Nat.le_succ _)
  refine z_putPl dX12_init_10 zf_X12_7 (by decide) rfl (Or.inr ⟨rfl, rfl, rfl⟩) (fun _ _ _ _ _ => rfl) (fun _ => rfl) (fun _ => rfl) ?_
  have hF := zFz_put (a := 160) (k := 0) (b := 161) hF (by decide)
  refine z_aload_n dX12_init_13 rfl ?_
  refine z_sipush (v := 1600) dX12_init_14 (by decide) ?_
  refine z_newB (N := 1600) dX12_init_17 zz_byte (by decide) rfl (by decide) (by decide) (by decide) hF (Nat.le_of_ble_eq_true rfl) (Nat.le_of_ble_eq_true rfl) ?_
  show zW _ _ _ _ _ _ _ _ _ _ _ 163 2 3220
  have hF : zFz 163 _ _ _ := zFz_le hF (Nat.le_succ _)
  refine z_putPl dX12_init_19 zf_X12_13 (by decide) rfl (Or.inr ⟨rfl, rfl, rfl⟩) (fun _ _ _ _ _ => rfl) (fun _ => rfl) (fun _ => rfl) ?_
  have hF := zFz_put (a := 160) (k := 1) (b := 162) hF (by decide)
  refine z_aload_n dX12_init_22 rfl ?_
  refine z_iconst (v := (-1)) dX12_init_23 (by decide) ?_
  refine z_putI (v := (-1)) dX12_init_24 zf_X12_16 (by decide) rfl (Or.inl rfl) (fun _ _ _ _ _ => rfl) (by decide) (by decide) ?_
  have hF := zFz_I (a := 160) (k := 5) (v := (-1)) hF (by decide)
  refine z_aload_n dX12_init_27 rfl ?_
  refine z_iconst (v := 2) dX12_init_28 (by decide) ?_
  refine z_newI (N := 2) dX12_init_29 zz_int (by decide) rfl (by decide) (by decide) (by decide) hF (Nat.le_of_ble_eq_true rfl) (Nat.le_of_ble_eq_true rfl) ?_
  show zW _ _ _ _ _ _ _ _ _ _ _ 164 3 3222
  have hF : zFz 164 _ _ _ := zFz_le hF (Nat.le_succ _)
  refine z_putPl dX12_init_31 zf_X12_20 (by decide) rfl (Or.inr ⟨rfl, rfl, rfl⟩) (fun _ _ _ _ _ => rfl) (fun _ => rfl) (fun _ => rfl) ?_
  have hF := zFz_put (a := 160) (k := 11) (b := 163) hF (by decide)
  refine z_aload_n dX12_init_34 rfl ?_
  refine z_iconst (v := 2) dX12_init_35 (by decide) ?_
  refine z_newI (N := 2) dX12_init_36 zz_int (by decide) rfl (by decide) (by decide) (by decide) hF (Nat.le_of_ble_eq_true rfl) (Nat.le_of_ble_eq_true rfl) ?_
  show zW _ _ _ _ _ _ _ _ _ _ _ 165 4 3224
  have hF : zFz 165 _ _ _ := zFz_le hF (Nat.le_succ _)
  refine z_putPl dX12_init_38 zf_X12_24 (by decide) rfl (Or.inr ⟨rfl, rfl, rfl⟩) (fun _ _ _ _ _ => rfl) (fun _ => rfl) (fun _ => rfl) ?_
  have hF := zFz_put (a := 160) (k := 12) (b := 164) hF (by decide)
  refine z_aload_n dX12_init_41 rfl ?_
  refine z_iconst (v := 2) dX12_init_42 (by decide) ?_
  refine z_newI (N := 2) dX12_init_43 zz_int (by decide) rfl (by decide) (by decide) (by decide) hF (Nat.le_of_ble_eq_true rfl) (Nat.le_of_ble_eq_true rfl) ?_
  show zW _ _ _ _ _ _ _ _ _ _ _ 166 5 3226
  have hF : zFz 166 _ _ _ := zFz_le hF (Nat.le_succ _)
  refine z_putPl dX12_init_45 zf_X12_27 (by decide) rfl (Or.inr ⟨rfl, rfl, rfl⟩) (fun _ _ _ _ _ => rfl) (fun _ => rfl) (fun _ => rfl) ?_
  have hF := zFz_put (a := 160) (k := 13) (b := 165) hF (by decide)
  refine z_aload_n dX12_init_48 rfl ?_
  refine z_iconst (v := 3) dX12_init_49 (by decide) ?_
  refine z_newI (N := 3) dX12_init_50 zz_int (by decide) rfl (by decide) (by decide) (by decide) hF (Nat.le_of_ble_eq_true rfl) (Nat.le_of_ble_eq_true rfl) ?_
  show zW _ _ _ _ _ _ _ _ _ _ _ 167 6 3229
  have hF : zFz 167 _ _ _ := zFz_le hF (Nat.le_succ _)
  refine z_putPl dX12_init_52 zf_X12_30 (by decide) rfl (Or.inr ⟨rfl, rfl, rfl⟩) (fun _ _ _ _ _ => rfl) (fun _ => rfl) (fun _ => rfl) ?_
  have hF := zFz_put (a := 160) (k := 14) (b := 166) hF (by decide)
  refine z_aload_n dX12_init_55 rfl ?_
  refine z_iconst (v := 2) dX12_init_56 (by decide) ?_
  refine z_newI (N := 2) dX12_init_57 zz_int (by decide) rfl (by decide) (by decide) (by decide) hF (Nat.le_of_ble_eq_true rfl) (Nat.le_of_ble_eq_true rfl) ?_
  show zW _ _ _ _ _ _ _ _ _ _ _ 168 7 3231
  have hF : zFz 168 _ _ _ := zFz_le hF (Nat.le_succ _)
  refine z_putPl dX12_init_59 zf_X12_33 (by decide) rfl (Or.inr ⟨rfl, rfl, rfl⟩) (fun _ _ _ _ _ => rfl) (fun _ => rfl) (fun _ => rfl) ?_
  have hF := zFz_put (a := 160) (k := 15) (b := 167) hF (by decide)
  refine z_aload_n dX12_init_62 rfl ?_
  refine z_bipush (v := 16) dX12_init_63 (by decide) ?_
  refine z_newI (N := 16) dX12_init_65 zz_int (by decide) rfl (by decide) (by decide) (by decide) hF (Nat.le_of_ble_eq_true rfl) (Nat.le_of_ble_eq_true rfl) ?_
  show zW _ _ _ _ _ _ _ _ _ _ _ 169 8 3247
  have hF : zFz 169 _ _ _ := zFz_le hF (Nat.le_succ _)
  refine z_putPl dX12_init_67 zf_X12_36 (by decide) rfl (Or.inr ⟨rfl, rfl, rfl⟩) (fun _ _ _ _ _ => rfl) (fun _ => rfl) (fun _ => rfl) ?_
  have hF := zFz_put (a := 160) (k := 16) (b := 168) hF (by decide)
  refine z_aload_n dX12_init_70 rfl ?_
  refine z_bipush (v := 12) dX12_init_71 (by decide) ?_
  refine z_newI (N := 12) dX12_init_73 zz_int (by decide) rfl (by decide) (by decide) (by decide) hF (Nat.le_of_ble_eq_true rfl) (Nat.le_of_ble_eq_true rfl) ?_
  show zW _ _ _ _ _ _ _ _ _ _ _ 170 9 3259
  have hF : zFz 170 _ _ _ := zFz_le hF (Nat.le_succ _)
  refine z_putPl dX12_init_75 zf_X12_39 (by decide) rfl (Or.inr ⟨rfl, rfl, rfl⟩) (fun _ _ _ _ _ => rfl) (fun _ => rfl) (fun _ => rfl) ?_
  have hF := zFz_put (a := 160) (k := 17) (b := 169) hF (by decide)
  refine z_aload_n dX12_init_78 rfl ?_
  refine z_bipush (v := 12) dX12_init_79 (by decide) ?_
  refine z_newI (N := 12) dX12_init_81 zz_int (by decide) rfl (by decide) (by decide) (by decide) hF (Nat.le_of_ble_eq_true rfl) (Nat.le_of_ble_eq_true rfl) ?_
  show zW _ _ _ _ _ _ _ _ _ _ _ 171 10 3271
  have hF : zFz 171 _ _ _ := zFz_le hF (Nat.le_succ _)
  refine z_putPl dX12_init_83 zf_X12_42 (by decide) rfl (Or.inr ⟨rfl, rfl, rfl⟩) (fun _ _ _ _ _ => rfl) (fun _ => rfl) (fun _ => rfl) ?_
  have hF := zFz_put (a := 160) (k := 18) (b := 170) hF (by decide)
  refine z_aload_n dX12_init_86 rfl ?_
  refine z_iconst (v := 2) dX12_init_87 (by decide) ?_
  refine z_newZ (N := 2) dX12_init_88 zz_boolean (by decide) rfl (by decide) (by decide) (by decide) hF (Nat.le_of_ble_eq_true rfl) (Nat.le_of_ble_eq_true rfl) ?_
  show zW _ _ _ _ _ _ _ _ _ _ _ 172 11 3273
  have hF : zFz 172 _ _ _ := zFz_le hF (Nat.le_succ _)
  refine z_putPl dX12_init_90 zf_X12_45 (by decide) rfl (Or.inr ⟨rfl, rfl, rfl⟩) (fun _ _ _ _ _ => rfl) (fun _ => rfl) (fun _ => rfl) ?_
  have hF := zFz_put (a := 160) (k := 19) (b := 171) hF (by decide)
  refine z_aload_n dX12_init_93 rfl ?_
  refine z_iconst (v := 2) dX12_init_94 (by decide) ?_
  refine z_newZ (N := 2) dX12_init_95 zz_boolean (by decide) rfl (by decide) (by decide) (by decide) hF (Nat.le_of_ble_eq_true rfl) (Nat.le_of_ble_eq_true rfl) ?_
  show zW _ _ _ _ _ _ _ _ _ _ _ 173 12 3275
  have hF : zFz 173 _ _ _ := zFz_le hF (Nat.le_succ _)
  refine z_putPl dX12_init_97 zf_X12_49 (by decide) rfl (Or.inr ⟨rfl, rfl, rfl⟩) (fun _ _ _ _ _ => rfl) (fun _ => rfl) (fun _ => rfl) ?_
  have hF := zFz_put (a := 160) (k := 20) (b := 172) hF (by decide)
  refine z_aload_n dX12_init_100 rfl ?_
  refine z_bipush (v := 16) dX12_init_101 (by decide) ?_
  refine z_newZ (N := 16) dX12_init_103 zz_boolean (by decide) rfl (by decide) (by decide) (by decide) hF (Nat.le_of_ble_eq_true rfl) (Nat.le_of_ble_eq_true rfl) ?_
  show zW _ _ _ _ _ _ _ _ _ _ _ 174 13 3291
  have hF : zFz 174 _ _ _ := zFz_le hF (Nat.le_succ _)
  refine z_putPl dX12_init_105 zf_X12_52 (by decide) rfl (Or.inr ⟨rfl, rfl, rfl⟩) (fun _ _ _ _ _ => rfl) (fun _ => rfl) (fun _ => rfl) ?_
  have hF := zFz_put (a := 160) (k := 21) (b := 173) hF (by decide)
  refine z_aload_n dX12_init_108 rfl ?_
  refine z_bipush (v := 16) dX12_init_109 (by decide) ?_
  refine z_newL (N := 16) dX12_init_111 zz_long (by decide) rfl (by decide) (by decide) (by decide) hF (Nat.le_of_ble_eq_true rfl) (Nat.le_of_ble_eq_true rfl) ?_
  show zW _ _ _ _ _ _ _ _ _ _ _ 175 14 3307
  have hF : zFz 175 _ _ _ := zFz_le hF (Nat.le_succ _)
  refine z_putPl dX12_init_113 zf_X12_55 (by decide) rfl (Or.inr ⟨rfl, rfl, rfl⟩) (fun _ _ _ _ _ => rfl) (fun _ => rfl) (fun _ => rfl) ?_
  have hF := zFz_put (a := 160) (k := 22) (b := 174) hF (by decide)
  refine z_aload_n dX12_init_116 rfl ?_
  refine z_sipush (v := 2100) dX12_init_117 (by decide) ?_
  refine z_newI (N := 2100) dX12_init_120 zz_int (by decide) rfl (by decide) (by decide) (by decide) hF (Nat.le_of_ble_eq_true rfl) (Nat.le_of_ble_eq_true rfl) ?_
  show zW _ _ _ _ _ _ _ _ _ _ _ 176 15 5407
  have hF : zFz 176 _ _ _ := zFz_le hF (Nat.le_succ _)
  refine z_putPl dX12_init_122 zf_X12_59 (by decide) rfl (Or.inr ⟨rfl, rfl, rfl⟩) (fun _ _ _ _ _ => rfl) (fun _ => rfl) (fun _ => rfl) ?_
  have hF := zFz_put (a := 160) (k := 23) (b := 175) hF (by decide)
  refine z_aload_n dX12_init_125 rfl ?_
  refine z_sipush (v := 2100) dX12_init_126 (by decide) ?_
  refine z_newI (N := 2100) dX12_init_129 zz_int (by decide) rfl (by decide) (by decide) (by decide) hF (Nat.le_of_ble_eq_true rfl) (Nat.le_of_ble_eq_true rfl) ?_
  show zW _ _ _ _ _ _ _ _ _ _ _ 177 16 7507
  have hF : zFz 177 _ _ _ := zFz_le hF (Nat.le_succ _)
  refine z_putPl dX12_init_131 zf_X12_62 (by decide) rfl (Or.inr ⟨rfl, rfl, rfl⟩) (fun _ _ _ _ _ => rfl) (fun _ => rfl) (fun _ => rfl) ?_
  have hF := zFz_put (a := 160) (k := 24) (b := 176) hF (by decide)
  refine z_aload_n dX12_init_134 rfl ?_
  refine z_bipush (v := 90) dX12_init_135 (by decide) ?_
  refine z_newI (N := 90) dX12_init_137 zz_int (by decide) rfl (by decide) (by decide) (by decide) hF (Nat.le_of_ble_eq_true rfl) (Nat.le_of_ble_eq_true rfl) ?_
  show zW _ _ _ _ _ _ _ _ _ _ _ 178 17 7597
  have hF : zFz 178 _ _ _ := zFz_le hF (Nat.le_succ _)
  refine z_putPl dX12_init_139 zf_X12_65 (by decide) rfl (Or.inr ⟨rfl, rfl, rfl⟩) (fun _ _ _ _ _ => rfl) (fun _ => rfl) (fun _ => rfl) ?_
  have hF := zFz_put (a := 160) (k := 25) (b := 177) hF (by decide)
  refine z_aload_n dX12_init_142 rfl ?_
  refine z_bipush (v := 90) dX12_init_143 (by decide) ?_
  refine z_newI (N := 90) dX12_init_145 zz_int (by decide) rfl (by decide) (by decide) (by decide) hF (Nat.le_of_ble_eq_true rfl) (Nat.le_of_ble_eq_true rfl) ?_
  show zW _ _ _ _ _ _ _ _ _ _ _ 179 18 7687
  have hF : zFz 179 _ _ _ := zFz_le hF (Nat.le_succ _)
  refine z_putPl dX12_init_147 zf_X12_68 (by decide) rfl (Or.inr ⟨rfl, rfl, rfl⟩) (fun _ _ _ _ _ => rfl) (fun _ => rfl) (fun _ => rfl) ?_
  have hF := zFz_put (a := 160) (k := 26) (b := 178) hF (by decide)
  refine z_aload_n dX12_init_150 rfl ?_
  refine z_bipush (v := 90) dX12_init_151 (by decide) ?_
  refine z_newI (N := 90) dX12_init_153 zz_int (by decide) rfl (by decide) (by decide) (by decide) hF (Nat.le_of_ble_eq_true rfl) (Nat.le_of_ble_eq_true rfl) ?_
  show zW _ _ _ _ _ _ _ _ _ _ _ 180 19 7777
  have hF : zFz 180 _ _ _ := zFz_le hF (Nat.le_succ _)
  refine z_putPl dX12_init_155 zf_X12_71 (by decide) rfl (Or.inr ⟨rfl, rfl, rfl⟩) (fun _ _ _ _ _ => rfl) (fun _ => rfl) (fun _ => rfl) ?_
  have hF := zFz_put (a := 160) (k := 27) (b := 179) hF (by decide)
  refine z_aload_n dX12_init_158 rfl ?_
  refine z_sipush (v := 256) dX12_init_159 (by decide) ?_
  refine z_newZ (N := 256) dX12_init_162 zz_boolean (by decide) rfl (by decide) (by decide) (by decide) hF (Nat.le_of_ble_eq_true rfl) (Nat.le_of_ble_eq_true rfl) ?_
  show zW _ _ _ _ _ _ _ _ _ _ _ 181 20 8033
  have hF : zFz 181 _ _ _ := zFz_le hF (Nat.le_succ _)
  refine z_putPl dX12_init_164 zf_X12_74 (by decide) rfl (Or.inr ⟨rfl, rfl, rfl⟩) (fun _ _ _ _ _ => rfl) (fun _ => rfl) (fun _ => rfl) ?_
  have hF := zFz_put (a := 160) (k := 35) (b := 180) hF (by decide)
  refine z_aload_n dX12_init_167 rfl ?_
  refine z_sipush (v := 2048) dX12_init_168 (by decide) ?_
  refine z_newZ (N := 2048) dX12_init_171 zz_boolean (by decide) rfl (by decide) (by decide) (by decide) hF (Nat.le_of_ble_eq_true rfl) (Nat.le_of_ble_eq_true rfl) ?_
  show zW _ _ _ _ _ _ _ _ _ _ _ 182 21 10081
  have hF : zFz 182 _ _ _ := zFz_le hF (Nat.le_succ _)
  refine z_putPl dX12_init_173 zf_X12_77 (by decide) rfl (Or.inr ⟨rfl, rfl, rfl⟩) (fun _ _ _ _ _ => rfl) (fun _ => rfl) (fun _ => rfl) ?_
  have hF := zFz_put (a := 160) (k := 36) (b := 181) hF (by decide)
  refine z_aload_n dX12_init_176 rfl ?_
  refine z_bipush (v := 8) dX12_init_177 (by decide) ?_
  refine z_newI (N := 8) dX12_init_179 zz_int (by decide) rfl (by decide) (by decide) (by decide) hF (Nat.le_of_ble_eq_true rfl) (Nat.le_of_ble_eq_true rfl) ?_
  show zW _ _ _ _ _ _ _ _ _ _ _ 183 22 10089
  have hF : zFz 183 _ _ _ := zFz_le hF (Nat.le_succ _)
  refine z_putPl dX12_init_181 zf_X12_80 (by decide) rfl (Or.inr ⟨rfl, rfl, rfl⟩) (fun _ _ _ _ _ => rfl) (fun _ => rfl) (fun _ => rfl) ?_
  have hF := zFz_put (a := 160) (k := 37) (b := 182) hF (by decide)
  refine z_aload_n dX12_init_184 rfl ?_
  refine z_sipush (v := 12288) dX12_init_185 (by decide) ?_
  refine z_newI (N := 12288) dX12_init_188 zz_int (by decide) rfl (by decide) (by decide) (by decide) hF (Nat.le_of_ble_eq_true rfl) (Nat.le_of_ble_eq_true rfl) ?_
  show zW _ _ _ _ _ _ _ _ _ _ _ 184 23 22377
  have hF : zFz 184 _ _ _ := zFz_le hF (Nat.le_succ _)
  refine z_putPl dX12_init_190 zf_X12_83 (by decide) rfl (Or.inr ⟨rfl, rfl, rfl⟩) (fun _ _ _ _ _ => rfl) (fun _ => rfl) (fun _ => rfl) ?_
  have hF := zFz_put (a := 160) (k := 41) (b := 183) hF (by decide)
  refine z_aload_n dX12_init_193 rfl ?_
  refine z_sipush (v := 256) dX12_init_194 (by decide) ?_
  refine z_newI (N := 256) dX12_init_197 zz_int (by decide) rfl (by decide) (by decide) (by decide) hF (Nat.le_of_ble_eq_true rfl) (Nat.le_of_ble_eq_true rfl) ?_
  show zW _ _ _ _ _ _ _ _ _ _ _ 185 24 22633
  have hF : zFz 185 _ _ _ := zFz_le hF (Nat.le_succ _)
  refine z_putPl dX12_init_199 zf_X12_86 (by decide) rfl (Or.inr ⟨rfl, rfl, rfl⟩) (fun _ _ _ _ _ => rfl) (fun _ => rfl) (fun _ => rfl) ?_
  have hF := zFz_put (a := 160) (k := 42) (b := 184) hF (by decide)
  refine z_aload_n dX12_init_202 rfl ?_
  refine z_sipush (v := 256) dX12_init_203 (by decide) ?_
  refine z_newI (N := 256) dX12_init_206 zz_int (by decide) rfl (by decide) (by decide) (by decide) hF (Nat.le_of_ble_eq_true rfl) (Nat.le_of_ble_eq_true rfl) ?_
  show zW _ _ _ _ _ _ _ _ _ _ _ 186 25 22889
  have hF : zFz 186 _ _ _ := zFz_le hF (Nat.le_succ _)
  refine z_putPl dX12_init_208 zf_X12_89 (by decide) rfl (Or.inr ⟨rfl, rfl, rfl⟩) (fun _ _ _ _ _ => rfl) (fun _ => rfl) (fun _ => rfl) ?_
  have hF := zFz_put (a := 160) (k := 43) (b := 185) hF (by decide)
  refine z_aload_n dX12_init_211 rfl ?_
  refine z_sipush (v := 256) dX12_init_212 (by decide) ?_
  refine z_newI (N := 256) dX12_init_215 zz_int (by decide) rfl (by decide) (by decide) (by decide) hF (Nat.le_of_ble_eq_true rfl) (Nat.le_of_ble_eq_true rfl) ?_
  show zW _ _ _ _ _ _ _ _ _ _ _ 187 26 23145
  have hF : zFz 187 _ _ _ := zFz_le hF (Nat.le_succ _)
  refine z_putPl dX12_init_217 zf_X12_92 (by decide) rfl (Or.inr ⟨rfl, rfl, rfl⟩) (fun _ _ _ _ _ => rfl) (fun _ => rfl) (fun _ => rfl) ?_
  have hF := zFz_put (a := 160) (k := 44) (b := 186) hF (by decide)
  refine z_aload_n dX12_init_220 rfl ?_
  refine z_sipush (v := 256) dX12_init_221 (by decide) ?_
  refine z_newZ (N := 256) dX12_init_224 zz_boolean (by decide) rfl (by decide) (by decide) (by decide) hF (Nat.le_of_ble_eq_true rfl) (Nat.le_of_ble_eq_true rfl) ?_
  show zW _ _ _ _ _ _ _ _ _ _ _ 188 27 23401
  have hF : zFz 188 _ _ _ := zFz_le hF (Nat.le_succ _)
  refine z_putPl dX12_init_226 zf_X12_95 (by decide) rfl (Or.inr ⟨rfl, rfl, rfl⟩) (fun _ _ _ _ _ => rfl) (fun _ => rfl) (fun _ => rfl) ?_
  have hF := zFz_put (a := 160) (k := 45) (b := 187) hF (by decide)
  refine z_aload_n dX12_init_229 rfl ?_
  refine z_sipush (v := 256) dX12_init_230 (by decide) ?_
  refine z_newI (N := 256) dX12_init_233 zz_int (by decide) rfl (by decide) (by decide) (by decide) hF (Nat.le_of_ble_eq_true rfl) (Nat.le_of_ble_eq_true rfl) ?_
  show zW _ _ _ _ _ _ _ _ _ _ _ 189 28 23657
  have hF : zFz 189 _ _ _ := zFz_le hF (Nat.le_succ _)
  refine z_putPl dX12_init_235 zf_X12_98 (by decide) rfl (Or.inr ⟨rfl, rfl, rfl⟩) (fun _ _ _ _ _ => rfl) (fun _ => rfl) (fun _ => rfl) ?_
  have hF := zFz_put (a := 160) (k := 47) (b := 188) hF (by decide)
  refine z_aload_n dX12_init_238 rfl ?_
  refine z_bipush (v := 20) dX12_init_239 (by decide) ?_
  refine z_newI (N := 20) dX12_init_241 zz_int (by decide) rfl (by decide) (by decide) (by decide) hF (Nat.le_of_ble_eq_true rfl) (Nat.le_of_ble_eq_true rfl) ?_
  show zW _ _ _ _ _ _ _ _ _ _ _ 190 29 23677
  have hF : zFz 190 _ _ _ := zFz_le hF (Nat.le_succ _)
  refine z_putPl dX12_init_243 zf_X12_101 (by decide) rfl (Or.inr ⟨rfl, rfl, rfl⟩) (fun _ _ _ _ _ => rfl) (fun _ => rfl) (fun _ => rfl) ?_
  have hF := zFz_put (a := 160) (k := 49) (b := 189) hF (by decide)
  refine z_aload_n dX12_init_246 rfl ?_
  refine z_bipush (v := 20) dX12_init_247 (by decide) ?_
  refine z_newI (N := 20) dX12_init_249 zz_int (by decide) rfl (by decide) (by decide) (by decide) hF (Nat.le_of_ble_eq_true rfl) (Nat.le_of_ble_eq_true rfl) ?_
  show zW _ _ _ _ _ _ _ _ _ _ _ 191 30 23697
  have hF : zFz 191 _ _ _ := zFz_le hF (Nat.le_succ _)
  refine z_putPl dX12_init_251 zf_X12_104 (by decide) rfl (Or.inr ⟨rfl, rfl, rfl⟩) (fun _ _ _ _ _ => rfl) (fun _ => rfl) (fun _ => rfl) ?_
  have hF := zFz_put (a := 160) (k := 50) (b := 190) hF (by decide)
  refine z_aload_n dX12_init_254 rfl ?_
  refine z_bipush (v := 20) dX12_init_255 (by decide) ?_
  refine z_newI (N := 20) dX12_init_257 zz_int (by decide) rfl (by decide) (by decide) (by decide) hF (Nat.le_of_ble_eq_true rfl) (Nat.le_of_ble_eq_true rfl) ?_
  show zW _ _ _ _ _ _ _ _ _ _ _ 192 31 23717
  have hF : zFz 192 _ _ _ := zFz_le hF (Nat.le_succ _)
  refine z_putPl dX12_init_259 zf_X12_107 (by decide) rfl (Or.inr ⟨rfl, rfl, rfl⟩) (fun _ _ _ _ _ => rfl) (fun _ => rfl) (fun _ => rfl) ?_
  have hF := zFz_put (a := 160) (k := 51) (b := 191) hF (by decide)
  refine z_aload_n dX12_init_262 rfl ?_
  refine z_bipush (v := 20) dX12_init_263 (by decide) ?_
  refine z_newI (N := 20) dX12_init_265 zz_int (by decide) rfl (by decide) (by decide) (by decide) hF (Nat.le_of_ble_eq_true rfl) (Nat.le_of_ble_eq_true rfl) ?_
  show zW _ _ _ _ _ _ _ _ _ _ _ 193 32 23737
  have hF : zFz 193 _ _ _ := zFz_le hF (Nat.le_succ _)
  refine z_putPl dX12_init_267 zf_X12_110 (by decide) rfl (Or.inr ⟨rfl, rfl, rfl⟩) (fun _ _ _ _ _ => rfl) (fun _ => rfl) (fun _ => rfl) ?_
  have hF := zFz_put (a := 160) (k := 52) (b := 192) hF (by decide)
  refine z_aload_n dX12_init_270 rfl ?_
  refine z_bipush (v := 64) dX12_init_271 (by decide) ?_
  refine z_newI (N := 64) dX12_init_273 zz_int (by decide) rfl (by decide) (by decide) (by decide) hF (Nat.le_of_ble_eq_true rfl) (Nat.le_of_ble_eq_true rfl) ?_
  show zW _ _ _ _ _ _ _ _ _ _ _ 194 33 23801
  have hF : zFz 194 _ _ _ := zFz_le hF (Nat.le_succ _)
  refine z_putPl dX12_init_275 zf_X12_113 (by decide) rfl (Or.inr ⟨rfl, rfl, rfl⟩) (fun _ _ _ _ _ => rfl) (fun _ => rfl) (fun _ => rfl) ?_
  have hF := zFz_put (a := 160) (k := 53) (b := 193) hF (by decide)
  refine z_aload_n dX12_init_278 rfl ?_
  refine z_bipush (v := 64) dX12_init_279 (by decide) ?_
  refine z_newI (N := 64) dX12_init_281 zz_int (by decide) rfl (by decide) (by decide) (by decide) hF (Nat.le_of_ble_eq_true rfl) (Nat.le_of_ble_eq_true rfl) ?_
  show zW _ _ _ _ _ _ _ _ _ _ _ 195 34 23865
  have hF : zFz 195 _ _ _ := zFz_le hF (Nat.le_succ _)
  refine z_putPl dX12_init_283 zf_X12_116 (by decide) rfl (Or.inr ⟨rfl, rfl, rfl⟩) (fun _ _ _ _ _ => rfl) (fun _ => rfl) (fun _ => rfl) ?_
  have hF := zFz_put (a := 160) (k := 54) (b := 194) hF (by decide)
  refine z_aload_n dX12_init_286 rfl ?_
  refine z_bipush (v := 64) dX12_init_287 (by decide) ?_
  refine z_newI (N := 64) dX12_init_289 zz_int (by decide) rfl (by decide) (by decide) (by decide) hF (Nat.le_of_ble_eq_true rfl) (Nat.le_of_ble_eq_true rfl) ?_
  show zW _ _ _ _ _ _ _ _ _ _ _ 196 35 23929
  have hF : zFz 196 _ _ _ := zFz_le hF (Nat.le_succ _)
  refine z_putPl dX12_init_291 zf_X12_119 (by decide) rfl (Or.inr ⟨rfl, rfl, rfl⟩) (fun _ _ _ _ _ => rfl) (fun _ => rfl) (fun _ => rfl) ?_
  have hF := zFz_put (a := 160) (k := 55) (b := 195) hF (by decide)
  refine z_aload_n dX12_init_294 rfl ?_
  refine z_bipush (v := 64) dX12_init_295 (by decide) ?_
  refine z_newI (N := 64) dX12_init_297 zz_int (by decide) rfl (by decide) (by decide) (by decide) hF (Nat.le_of_ble_eq_true rfl) (Nat.le_of_ble_eq_true rfl) ?_
  show zW _ _ _ _ _ _ _ _ _ _ _ 197 36 23993
  have hF : zFz 197 _ _ _ := zFz_le hF (Nat.le_succ _)
  refine z_putPl dX12_init_299 zf_X12_122 (by decide) rfl (Or.inr ⟨rfl, rfl, rfl⟩) (fun _ _ _ _ _ => rfl) (fun _ => rfl) (fun _ => rfl) ?_
  have hF := zFz_put (a := 160) (k := 56) (b := 196) hF (by decide)
  refine z_aload_n dX12_init_302 rfl ?_
  refine z_bipush (v := 20) dX12_init_303 (by decide) ?_
  refine z_newZ (N := 20) dX12_init_305 zz_boolean (by decide) rfl (by decide) (by decide) (by decide) hF (Nat.le_of_ble_eq_true rfl) (Nat.le_of_ble_eq_true rfl) ?_
  show zW _ _ _ _ _ _ _ _ _ _ _ 198 37 24013
  have hF : zFz 198 _ _ _ := zFz_le hF (Nat.le_succ _)
  refine z_putPl dX12_init_307 zf_X12_125 (by decide) rfl (Or.inr ⟨rfl, rfl, rfl⟩) (fun _ _ _ _ _ => rfl) (fun _ => rfl) (fun _ => rfl) ?_
  have hF := zFz_put (a := 160) (k := 57) (b := 197) hF (by decide)
  refine z_aload_n dX12_init_310 rfl ?_
  refine z_bipush (v := 64) dX12_init_311 (by decide) ?_
  refine z_newZ (N := 64) dX12_init_313 zz_boolean (by decide) rfl (by decide) (by decide) (by decide) hF (Nat.le_of_ble_eq_true rfl) (Nat.le_of_ble_eq_true rfl) ?_
  show zW _ _ _ _ _ _ _ _ _ _ _ 199 38 24077
  have hF : zFz 199 _ _ _ := zFz_le hF (Nat.le_succ _)
  refine z_putPl dX12_init_315 zf_X12_128 (by decide) rfl (Or.inr ⟨rfl, rfl, rfl⟩) (fun _ _ _ _ _ => rfl) (fun _ => rfl) (fun _ => rfl) ?_
  have hF := zFz_put (a := 160) (k := 58) (b := 198) hF (by decide)
  refine z_aload_n dX12_init_318 rfl ?_
  refine z_iconst (v := 4) dX12_init_319 (by decide) ?_
  refine z_newI (N := 4) dX12_init_320 zz_int (by decide) rfl (by decide) (by decide) (by decide) hF (Nat.le_of_ble_eq_true rfl) (Nat.le_of_ble_eq_true rfl) ?_
  show zW _ _ _ _ _ _ _ _ _ _ _ 200 39 24081
  have hF : zFz 200 _ _ _ := zFz_le hF (Nat.le_succ _)
  refine z_putPl dX12_init_322 zf_X12_131 (by decide) rfl (Or.inr ⟨rfl, rfl, rfl⟩) (fun _ _ _ _ _ => rfl) (fun _ => rfl) (fun _ => rfl) ?_
  have hF := zFz_put (a := 160) (k := 62) (b := 199) hF (by decide)
  refine z_aload_n dX12_init_325 rfl ?_
  refine z_iconst (v := 4) dX12_init_326 (by decide) ?_
  refine z_newI (N := 4) dX12_init_327 zz_int (by decide) rfl (by decide) (by decide) (by decide) hF (Nat.le_of_ble_eq_true rfl) (Nat.le_of_ble_eq_true rfl) ?_
  show zW _ _ _ _ _ _ _ _ _ _ _ 201 40 24085
  have hF : zFz 201 _ _ _ := zFz_le hF (Nat.le_succ _)
  refine z_putPl dX12_init_329 zf_X12_134 (by decide) rfl (Or.inr ⟨rfl, rfl, rfl⟩) (fun _ _ _ _ _ => rfl) (fun _ => rfl) (fun _ => rfl) ?_
  have hF := zFz_put (a := 160) (k := 63) (b := 200) hF (by decide)
  refine z_aload_n dX12_init_332 rfl ?_
  refine z_iconst (v := 4) dX12_init_333 (by decide) ?_
  refine z_newI (N := 4) dX12_init_334 zz_int (by decide) rfl (by decide) (by decide) (by decide) hF (Nat.le_of_ble_eq_true rfl) (Nat.le_of_ble_eq_true rfl) ?_
  show zW _ _ _ _ _ _ _ _ _ _ _ 202 41 24089
  have hF : zFz 202 _ _ _ := zFz_le hF (Nat.le_succ _)
  refine z_putPl dX12_init_336 zf_X12_137 (by decide) rfl (Or.inr ⟨rfl, rfl, rfl⟩) (fun _ _ _ _ _ => rfl) (fun _ => rfl) (fun _ => rfl) ?_
  have hF := zFz_put (a := 160) (k := 64) (b := 201) hF (by decide)
  refine z_aload_n dX12_init_339 rfl ?_
  refine z_bipush (v := 32) dX12_init_340 (by decide) ?_
  refine z_newI (N := 32) dX12_init_342 zz_int (by decide) rfl (by decide) (by decide) (by decide) hF (Nat.le_of_ble_eq_true rfl) (Nat.le_of_ble_eq_true rfl) ?_
  show zW _ _ _ _ _ _ _ _ _ _ _ 203 42 24121
  have hF : zFz 203 _ _ _ := zFz_le hF (Nat.le_succ _)
  refine z_putPl dX12_init_344 zf_X12_140 (by decide) rfl (Or.inr ⟨rfl, rfl, rfl⟩) (fun _ _ _ _ _ => rfl) (fun _ => rfl) (fun _ => rfl) ?_
  have hF := zFz_put (a := 160) (k := 65) (b := 202) hF (by decide)
  refine z_aload_n dX12_init_347 rfl ?_
  refine z_sipush (v := 1024) dX12_init_348 (by decide) ?_
  refine z_newZ (N := 1024) dX12_init_351 zz_boolean (by decide) rfl (by decide) (by decide) (by decide) hF (Nat.le_of_ble_eq_true rfl) (Nat.le_of_ble_eq_true rfl) ?_
  show zW _ _ _ _ _ _ _ _ _ _ _ 204 43 25145
  have hF : zFz 204 _ _ _ := zFz_le hF (Nat.le_succ _)
  refine z_putPl dX12_init_353 zf_X12_143 (by decide) rfl (Or.inr ⟨rfl, rfl, rfl⟩) (fun _ _ _ _ _ => rfl) (fun _ => rfl) (fun _ => rfl) ?_
  have hF := zFz_put (a := 160) (k := 66) (b := 203) hF (by decide)
  refine z_aload_n dX12_init_356 rfl ?_
  refine z_sipush (v := 8192) dX12_init_357 (by decide) ?_
  refine z_newZ (N := 8192) dX12_init_360 zz_boolean (by decide) rfl (by decide) (by decide) (by decide) hF (Nat.le_of_ble_eq_true rfl) (Nat.le_of_ble_eq_true rfl) ?_
  show zW _ _ _ _ _ _ _ _ _ _ _ 205 44 33337
  have hF : zFz 205 _ _ _ := zFz_le hF (Nat.le_succ _)
  refine z_putPl dX12_init_362 zf_X12_146 (by decide) rfl (Or.inr ⟨rfl, rfl, rfl⟩) (fun _ _ _ _ _ => rfl) (fun _ => rfl) (fun _ => rfl) ?_
  have hF := zFz_put (a := 160) (k := 67) (b := 204) hF (by decide)
  show zW _ _ _ _ _ _ _ _ _ _ (pL lMM) _ _ _
  have z0 : ∀ k, k ≠ 5 → (zuI I 160 5 (-1)) 160 k = 0 := fun k hk => by rw [zuI_o hk]; exact hI k
  refine z_aload_n dX12_init_365 rfl ?_
  refine z_callV (As := []) (st := []) dX12_init_366 zl_X12_149 zv_X12_clearBank (by decide) rfl (by decide) rfl rfl rfl (Nat.le_of_ble_eq_true rfl) ⟨(Nat.le_of_ble_eq_true rfl), (Nat.le_of_ble_eq_true rfl)⟩ ⟨(Nat.le_of_ble_eq_true rfl), (Nat.le_of_ble_eq_true rfl)⟩ (sp_X12_clearBank (d := 10) (rb := 0) zPk_MM (z0 29 (by decide)) (by decide) (K := fun I' L' P' => iM 0 I' L A0 ∧ zFr [163, 164, 165, 166, 167, 171, 172] [30, 31, 32] (zuI I 160 5 (-1)) I' ∧ L = L' ∧ pL lMM = P') (fun I' a1 _ a3 => ⟨a1, a3, rfl, rfl⟩)) (fun v1 I1 L1 P1 nx1 q => ?_)
  obtain ⟨rfl, rfl, a1, a3, rfl, rfl⟩ := q
  have hB := mNew_B a1 (by rw [a3.2 28 (by decide)]; exact z0 28 (by decide))
  refine z_aload_n dX12_init_369 rfl ?_
  refine z_callV (As := []) (st := []) dX12_init_370 zl_X12_152 zv_X12_begin (by decide) rfl (by decide) rfl rfl rfl (Nat.le_of_ble_eq_true rfl) ⟨(Nat.le_of_ble_eq_true rfl), (Nat.le_of_ble_eq_true rfl)⟩ ⟨(Nat.le_of_ble_eq_true rfl), (Nat.le_of_ble_eq_true rfl)⟩ (sp_X12_begin (d := 10) zPk_MM hB.1 (by decide) (K := fun I' L' P' => (zFr [180] [38, 39, 40, 46] I1 I' ∧ (∀ w, w < 256 → I' 180 w = bP (w < vN I1)) ∧ I' 160 38 = 0 ∧ I' 160 39 = 0 ∧ I' 160 40 = 0 ∧ I' 160 46 = 0) ∧ L = L' ∧ pL lMM = P') (fun I' b1 b2 b3 b4 b5 b6 => ⟨⟨b1, b2, b3, b4, b5, b6⟩, rfl, rfl⟩)) (fun v1 I2 L1 P1 nx1 q => ?_)
  obtain ⟨rfl, rfl, hb, rfl, rfl⟩ := q
  show zW _ _ _ _ _ _ _ _ _ _ _ 205 44 33337
  refine z_iconst (v := 0) dX12_init_373 (by decide) ?_
  refine z_istore_n (lv2 := [some (.ref 160), some (.int 0)]) dX12_init_374 (by decide) rfl rfl ?_
  refine z_iload_n dX12_init_375 rfl ?_
  refine z_iconst (v := 4) dX12_init_376 (by decide) ?_
  refine z_icmp_ge (tgt := 393) dX12_init_377 (by decide) (fun q => absurd q (by decide)) (fun _ => ?_)
  refine z_aload_n dX12_init_380 rfl ?_
  refine z_getP (b := 199) dX12_init_381 zf_X12_131 (by decide) rfl (fun _ _ _ _ _ => rfl) (zPk_MM 160 62 199 zp_160_62) ?_
  refine z_iload_n dX12_init_384 rfl ?_
  refine z_iconst (v := (-1)) dX12_init_385 (by decide) ?_
  refine z_iastore dX12_init_386 (by decide) (n := 4) rfl (by unfold vp_in; decide) ?_
  rw [show (0 : Int32).toNatClampNeg = 0 from by decide]
  refine z_iinc (v2 := 1) (lv2 := [some (.ref 160), some (.int 1)]) dX12_init_387 rfl (by decide) (by decide) rfl rfl ?_
  refine z_goto (tgt := 375) dX12_init_390 (by decide) ?_
  refine z_iload_n dX12_init_375 rfl ?_
  refine z_iconst (v := 4) dX12_init_376 (by decide) ?_
  refine z_icmp_ge (tgt := 393) dX12_init_377 (by decide) (fun q => absurd q (by decide)) (fun _ => ?_)
  refine z_aload_n dX12_init_380 rfl ?_
  refine z_getP (b := 199) dX12_init_381 zf_X12_131 (by decide) rfl (fun _ _ _ _ _ => rfl) (zPk_MM 160 62 199 zp_160_62) ?_
  refine z_iload_n dX12_init_384 rfl ?_
  refine z_iconst (v := (-1)) dX12_init_385 (by decide) ?_
  refine z_iastore dX12_init_386 (by decide) (n := 4) rfl (by unfold vp_in; decide) ?_
  rw [show (1 : Int32).toNatClampNeg = 1 from by decide]
  refine z_iinc (v2 := 2) (lv2 := [some (.ref 160), some (.int 2)]) dX12_init_387 rfl (by decide) (by decide) rfl rfl ?_
  refine z_goto (tgt := 375) dX12_init_390 (by decide) ?_
  refine z_iload_n dX12_init_375 rfl ?_
  refine z_iconst (v := 4) dX12_init_376 (by decide) ?_
  refine z_icmp_ge (tgt := 393) dX12_init_377 (by decide) (fun q => absurd q (by decide)) (fun _ => ?_)
  refine z_aload_n dX12_init_380 rfl ?_
  refine z_getP (b := 199) dX12_init_381 zf_X12_131 (by decide) rfl (fun _ _ _ _ _ => rfl) (zPk_MM 160 62 199 zp_160_62) ?_
  refine z_iload_n dX12_init_384 rfl ?_
  refine z_iconst (v := (-1)) dX12_init_385 (by decide) ?_
  refine z_iastore dX12_init_386 (by decide) (n := 4) rfl (by unfold vp_in; decide) ?_
  rw [show (2 : Int32).toNatClampNeg = 2 from by decide]
  refine z_iinc (v2 := 3) (lv2 := [some (.ref 160), some (.int 3)]) dX12_init_387 rfl (by decide) (by decide) rfl rfl ?_
  refine z_goto (tgt := 375) dX12_init_390 (by decide) ?_
  refine z_iload_n dX12_init_375 rfl ?_
  refine z_iconst (v := 4) dX12_init_376 (by decide) ?_
  refine z_icmp_ge (tgt := 393) dX12_init_377 (by decide) (fun q => absurd q (by decide)) (fun _ => ?_)
  refine z_aload_n dX12_init_380 rfl ?_
  refine z_getP (b := 199) dX12_init_381 zf_X12_131 (by decide) rfl (fun _ _ _ _ _ => rfl) (zPk_MM 160 62 199 zp_160_62) ?_
  refine z_iload_n dX12_init_384 rfl ?_
  refine z_iconst (v := (-1)) dX12_init_385 (by decide) ?_
  refine z_iastore dX12_init_386 (by decide) (n := 4) rfl (by unfold vp_in; decide) ?_
  rw [show (3 : Int32).toNatClampNeg = 3 from by decide]
  refine z_iinc (v2 := 4) (lv2 := [some (.ref 160), some (.int 4)]) dX12_init_387 rfl (by decide) (by decide) rfl rfl ?_
  refine z_goto (tgt := 375) dX12_init_390 (by decide) ?_
  refine z_iload_n dX12_init_375 rfl ?_
  refine z_iconst (v := 4) dX12_init_376 (by decide) ?_
  refine z_icmp_ge (tgt := 393) dX12_init_377 (by decide) (fun _ => ?_) (fun q => absurd (by decide) q)
  exact z_return dX12_init_393 rfl (Nat.le_of_ble_eq_true rfl) (Nat.le_of_ble_eq_true rfl) (kk _ (mNew_of h1 hI a1 a3 hB.2 hb))
