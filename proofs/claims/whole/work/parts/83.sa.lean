/-! ===== z, 6: the two String constants ===== -/
def zsS (a : Nat) : Prop := a = 1000000 ∨ a = 1000001
def zsB (a : Nat) : Prop := a = 2000000 ∨ a = 2000001
def zsl (a : Nat) : Nat := [136, 10].getD (a - 2000000) 0
def zby (a j : Nat) : Int32 := (zbyt.getD (a - 2000000) []).getD j 0
theorem zsS_B {a : Nat} (h : zsS a) : zsB (a + 1000000) := by unfold zsS at h; unfold zsB; omega
section ZS
variable {y : zY} {R : Room} {mc ms : Nat} {Q : zQt} {pc : Nat} {lv : zV} {st : List Value} {I : zI} {L : zL} {P : zP} {nx cs sl : Nat}
theorem zad_S {G : zG} {a : Nat} (h : zsS a) : ∃ i, i < 2 ∧ a = 1000000 + i ∧ zad G a = G.2.2.2.1 i := by
  rcases h with rfl | rfl
  · exact ⟨0, by decide, rfl, rfl⟩
  · exact ⟨1, by decide, rfl, rfl⟩
theorem zad_B {G : zG} {a : Nat} (h : zsB a) : ∃ i, i < 2 ∧ a = 2000000 + i ∧ zad G a = G.2.2.2.2 i := by
  rcases h with rfl | rfl
  · exact ⟨0, by decide, rfl, rfl⟩
  · exact ⟨1, by decide, rfl, rfl⟩
theorem z_ldcS0 (hc : y.1.cls = "NinetyNights$Tokens") (h : decode y.2.1 pc = .ok (.ldc 40, 2)) (kk : zW y R mc ms Q (pc + 2) lv (.ref 1000000 :: st) I L P nx cs sl) : zW y R mc ms Q pc lv st I L P nx cs sl := by
  intro G p l e s m args below meth c0 H locs ls C hR hS hl
  have hZ := C.2.2.2.2.2.2.2.2.1.2.2.1.2.1
  exact va_ldcS C.1 C.2.1 (own := "NinetyNights$Tokens") (by rw [← hc]; exact C.2.2.2.2.1) hZ h (kk G p l e s m args below meth c0 H locs ls C hR hS hl)
theorem z_ldcS1 (hc : y.1.cls = "NinetyNights$Tokens") (h : decode y.2.1 pc = .ok (.ldc 76, 2)) (kk : zW y R mc ms Q (pc + 2) lv (.ref 1000001 :: st) I L P nx cs sl) : zW y R mc ms Q pc lv st I L P nx cs sl := by
  intro G p l e s m args below meth c0 H locs ls C hR hS hl
  have hZ := C.2.2.2.2.2.2.2.2.1.2.2.1.2.2.1
  exact va_ldcS C.1 C.2.1 (own := "NinetyNights$Tokens") (by rw [← hc]; exact C.2.2.2.2.1) hZ h (kk G p l e s m args below meth c0 H locs ls C hR hS hl)
theorem zfl_9 : Cond.fieldLink "java/lang/String" 9 "java/lang/String" "value" "[B" ∈ zTb := zt_7 161 (by decide +kernel) rfl
theorem zfl_15 : Cond.fieldLink "java/lang/String" 15 "java/lang/String" "coder" "B" ∈ zTb := zt_7 162 (by decide +kernel) rfl
theorem zfl_38 : Cond.fieldLink "java/lang/String" 38 "java/lang/String" "COMPACT_STRINGS" "Z" ∈ zTb := zt_1 156 (by decide +kernel) rfl
theorem z_getsC (hc : y.1.cls = "java/lang/String") (h : decode y.2.1 pc = .ok (.getstatic 38, 3)) (kk : zW y R mc ms Q (pc + 3) lv (.int 1 :: st) I L P nx cs sl) : zW y R mc ms Q pc lv st I L P nx cs sl := by
  intro G p l e s m args below meth c0 H locs ls C hR hS hl
  have hZ := C.2.2.2.2.2.2.2.2.1.2.2.1.2.2.2.1
  exact va_gets C.1 C.2.1 hZ hS (own := "java/lang/String") (by rw [← hc]; exact C.2.2.2.2.1) (C.2.2.2.2.2.1 _ zfl_38) (fun _ h => h) h (kk G p l e s m args below meth c0 H locs ls C hR hS hl)
theorem z_getSv {a : Nat} (hc : y.1.cls = "java/lang/String") (h : decode y.2.1 pc = .ok (.getfield 9, 3)) (ha : zsS a) (kk : zW y R mc ms Q (pc + 3) lv (.ref (a + 1000000) :: st) I L P nx cs sl) : zW y R mc ms Q pc lv (.ref a :: st) I L P nx cs sl := by
  intro G p l e s m args below meth c0 H locs ls C hR hS hl
  obtain ⟨i, hi, rfl, e1⟩ := zad_S (G := G) ha
  have hE := C.2.2.2.2.2.2.2.2.1.2.2.1.1
  have hk := kk G p l e s m args below meth c0 H locs ls C hR hS hl
  show W p l e R s m args below meth c0 H locs cs sl _ (F0 m pc ls (.ref (zad G (1000000 + i)) :: st.map (ztr G)))
  rw [e1]
  refine vk_getf C.1 C.2.1 (hE.1 i hi).2.2.1 hS (own := "java/lang/String") (by rw [← hc]; exact C.2.2.2.2.1) (C.2.2.2.2.2.1 _ zfl_9) (fun _ h => h) h ?_
  have e2 : zad G (1000000 + i + 1000000) = G.2.2.2.2 i := by
    obtain ⟨j, hj, e3, e4⟩ := zad_B (G := G) (zsS_B ha)
    rw [e4]
    have : j = i := by omega
    rw [this]
  rw [← e2]
  exact hk
theorem z_getSc {a : Nat} (hc : y.1.cls = "java/lang/String") (h : decode y.2.1 pc = .ok (.getfield 15, 3)) (ha : zsS a) (kk : zW y R mc ms Q (pc + 3) lv (.int 0 :: st) I L P nx cs sl) : zW y R mc ms Q pc lv (.ref a :: st) I L P nx cs sl := by
  intro G p l e s m args below meth c0 H locs ls C hR hS hl
  obtain ⟨i, hi, rfl, e1⟩ := zad_S (G := G) ha
  have hE := C.2.2.2.2.2.2.2.2.1.2.2.1.1
  have hk := kk G p l e s m args below meth c0 H locs ls C hR hS hl
  show W p l e R s m args below meth c0 H locs cs sl _ (F0 m pc ls (.ref (zad G (1000000 + i)) :: st.map (ztr G)))
  rw [e1]
  exact vk_getf C.1 C.2.1 (hE.1 i hi).2.1 hS (own := "java/lang/String") (by rw [← hc]; exact C.2.2.2.2.1) (C.2.2.2.2.2.1 _ zfl_15) (fun _ h => h) h hk
theorem z_baloadS {a : Nat} {i : Int32} (h : decode y.2.1 pc = .ok (.baload, 1)) (ha : zsB a) (hi : vp_in i (zsl a)) (kk : zW y R mc ms Q (pc + 1) lv (.int (zby a i.toNatClampNeg) :: st) I L P nx cs sl) : zW y R mc ms Q pc lv (.int i :: .ref a :: st) I L P nx cs sl := by
  intro G p l e s m args below meth c0 H locs ls C hR hS hl
  obtain ⟨j, hj, rfl, e1⟩ := zad_B (G := G) ha
  have hE := C.2.2.2.2.2.2.2.2.1.2.2.1.1
  have hk := kk G p l e s m args below meth c0 H locs ls C hR hS hl
  show W p l e R s m args below meth c0 H locs cs sl _ (F0 m pc ls (.int i :: .ref (zad G (2000000 + j)) :: st.map (ztr G)))
  rw [e1]
  have e0 : 2000000 + j - 2000000 = j := by omega
  unfold zsl at hi
  rw [e0] at hi
  refine va_tb C.1 C.2.1 (hE.1 j hj).2.2.2 hS hi (v := .int (zby (2000000 + j) i.toNatClampNeg)) ?_ h hk
  unfold zby
  rw [e0]
theorem z_alenS {a : Nat} (h : decode y.2.1 pc = .ok (.arraylength, 1)) (ha : zsB a) (kk : zW y R mc ms Q (pc + 1) lv (.int (nI (zsl a)) :: st) I L P nx cs sl) : zW y R mc ms Q pc lv (.ref a :: st) I L P nx cs sl := by
  intro G p l e s m args below meth c0 H locs ls C hR hS hl
  obtain ⟨j, hj, rfl, e1⟩ := zad_B (G := G) ha
  have hE := C.2.2.2.2.2.2.2.2.1.2.2.1.1
  have hk := kk G p l e s m args below meth c0 H locs ls C hR hS hl
  show W p l e R s m args below meth c0 H locs cs sl _ (F0 m pc ls (.ref (zad G (2000000 + j)) :: st.map (ztr G)))
  rw [e1]
  have e0 : 2000000 + j - 2000000 = j := by omega
  refine va_tlen C.1 C.2.1 (hE.1 j hj).2.2.2 hS (v := nI (zsl (2000000 + j))) ?_ h hk
  unfold zsl
  rw [e0]
  rfl
theorem z_callVS {y2 : zY} {idx n d2 mc2 ms2 a : Nat} {As st0 : List Value} (h : decode y.2.1 pc = .ok (.invokevirtual idx, 3)) (hC : zC y.1.cls idx y2 n) (hV : zCV y2) (hcn : y2.1.cls = "java/lang/String") (ha : zsS a) (hn : As.length = n) (hst : As.reverse ++ .ref a :: st = st0) (hrm : (st.map fun v => v.category).sum ≤ 8) (hd : d2 + 1 ≤ R.frames ∧ 64 * (d2 + 1) ≤ R.locals) (hcs : cs + mc2 ≤ R.cells ∧ sl + ms2 ≤ R.slots)
    {Q2 : zQt} (hM : zM y2 d2 mc2 ms2 (.ref a :: As) I L P nx Q2) (hQ : ∀ v I' L' P' nx', Q2 v I' L' P' nx' → zW y R mc ms Q (pc + 3) lv (v.toList ++ st) I' L' P' nx' (cs + mc2) (sl + ms2)) : zW y R mc ms Q pc lv st0 I L P nx cs sl := by
  intro G p l e s m args below meth c0 H locs ls C hR hS hl
  subst hst
  have hts := C.2.2.2.2.2.1
  obtain ⟨i, hi, e0, e1⟩ := zad_S (G := G) ha
  have hE := C.2.2.2.2.2.2.2.2.1.2.2.1.1
  refine z_after (st := st) (mc2 := mc2) (ms2 := ms2) (As := (Value.ref (zad G a) :: As.map (ztr G)).toArray) C hS hl hQ ?_
  refine va_runV (b := zad G a) (As := As.map (ztr G)) (rest := st.map (ztr G)) (Ts := zTb) (own := y.1.cls) (C := y2.1.cls) (bytes := y2.2.1) (maxL := y2.2.2.1) (ret := y2.2.2.2) (n := n) (nL := y.2.2.1) ⟨C.1, C.2.1, C.2.2.2.1, C.2.2.2.2.1, hts⟩ (hM l G)
    ⟨callB_of n hts (ws' := zTb) (fun w hw => by rcases List.mem_cons.mp hw with q | q; rw [q]; exact zTb_good _ hC.2.1; exact zTb_good _ q) rfl rfl rfl (hts _ hC.2.2.1) (hts _ hC.1) hC.2.2.2.1 ⟨hd.1, by have := hC.2.2.2.2; have := hd.2; show 8 + (_ + 11) + 64 * d2 ≤ _; omega⟩, hts _ hV.1, hts _ hV.2⟩
    ⟨zPc_blind, ?_, zPre C hR hS⟩ rfl (by simpa using hn) hl.1 (by simp [ztr]) (lv_room (by rw [zcat_sum]; exact hrm)) h hcs
  rw [e1, hcn]
  exact vk_recv hE hi hS
end ZS
abbrev gw_J0_coder_7d493 (d : Nat) (Q : zQt) (pc : Nat) (lv : zV) (st : List Value) (I : zI) (L : zL) (P : zP) : Prop := zW zm_J0_coder_7d493 (zRm d 0 0) 0 0 Q pc lv st I L P 205 0 0
abbrev v_J0_coder_7d493 (d : Nat) (Q : zQt) (a : Nat) (I : zI) (L : zL) (P : zP) : Prop :=
  (((1 : Int32) = 0 →
    narrow .byte (.int 1) = .int 1 ∧
    Q (some (.int 1)) I L P 205
  ) ∧ (¬ (1 : Int32) = 0 →
    zsS a ∧
    narrow .byte (.int 0) = .int 0 ∧
    Q (some (.int 0)) I L P 205
  ))
set_option maxRecDepth 20000 in
theorem g_J0_coder_7d493 {d : Nat} {Q : zQt} {a : Nat} {I : zI} {L : zL} {P : zP} (hP : zPk P) (hv : v_J0_coder_7d493 d Q a I L P) : zM zm_J0_coder_7d493 d 0 0 [.ref a] I L P 205 Q := by
  unfold v_J0_coder_7d493 at hv
  refine zM_of (lv0 := [some (.ref a)]) (by decide +kernel) (Nat.le_of_ble_eq_true rfl) rfl ?_
  refine z_getsC rfl dJ0_coder_7d493_0 ?_
  refine z_if_eq (tgt := 13) dJ0_coder_7d493_3 (by decide) (fun q1 => ?_) (fun q1 => ?_)
  · have hv := hv.1 q1
    refine z_iconst (v := 1) dJ0_coder_7d493_13 (by decide) ?_
    obtain ⟨h2, hv⟩ := hv
    exact z_ireturn dJ0_coder_7d493_14 rfl h2 (Nat.le_refl _) (Nat.le_refl _) hv
  · have hv := hv.2 q1
    refine z_aload_n dJ0_coder_7d493_6 rfl ?_
    obtain ⟨h3, hv⟩ := hv
    refine z_getSc rfl dJ0_coder_7d493_7 h3 ?_
    refine z_goto (tgt := 14) dJ0_coder_7d493_10 (by decide) ?_
    obtain ⟨h4, hv⟩ := hv
    exact z_ireturn dJ0_coder_7d493_14 rfl h4 (Nat.le_refl _) (Nat.le_refl _) hv
theorem sp_coder {d a : Nat} {I : zI} {L : zL} {P : zP} (hP : zPk P) (ha : zsS a) {K : Int32 → zI → zL → zP → Prop} (kk : K 0 I L P) : zMi zm_J0_coder_7d493 d [.ref a] I L P K :=
  g_J0_coder_7d493 hP ⟨fun q => absurd q (by decide), fun _ => ⟨ha, by decide, qi kk⟩⟩
abbrev gw_J0_isLatin1_aae02 (d : Nat) (Q : zQt) (pc : Nat) (lv : zV) (st : List Value) (I : zI) (L : zL) (P : zP) : Prop := zW zm_J0_isLatin1_aae02 (zRm d 0 0) 0 0 Q pc lv st I L P 205 0 0
abbrev v_J0_isLatin1_aae02 (d : Nat) (Q : zQt) (a : Nat) (I : zI) (L : zL) (P : zP) : Prop :=
  (((1 : Int32) = 0 →
    Q (some (.int 0)) I L P 205
  ) ∧ (¬ (1 : Int32) = 0 →
    zsS a ∧
    ((¬ (0 : Int32) = 0 →
      Q (some (.int 0)) I L P 205
    ) ∧ ((0 : Int32) = 0 →
      Q (some (.int 1)) I L P 205
    ))
  ))
set_option maxRecDepth 20000 in
theorem g_J0_isLatin1_aae02 {d : Nat} {Q : zQt} {a : Nat} {I : zI} {L : zL} {P : zP} (hP : zPk P) (hv : v_J0_isLatin1_aae02 d Q a I L P) : zM zm_J0_isLatin1_aae02 d 0 0 [.ref a] I L P 205 Q := by
  unfold v_J0_isLatin1_aae02 at hv
  refine zM_of (lv0 := [some (.ref a)]) (by decide +kernel) (Nat.le_of_ble_eq_true rfl) rfl ?_
  refine z_getsC rfl dJ0_isLatin1_aae02_0 ?_
  refine z_if_eq (tgt := 17) dJ0_isLatin1_aae02_3 (by decide) (fun q1 => ?_) (fun q1 => ?_)
  · have hv := hv.1 q1
    refine z_iconst (v := 0) dJ0_isLatin1_aae02_17 (by decide) ?_
    exact z_ireturn dJ0_isLatin1_aae02_18 rfl (by decide) (Nat.le_refl _) (Nat.le_refl _) hv
  · have hv := hv.2 q1
    refine z_aload_n dJ0_isLatin1_aae02_6 rfl ?_
    obtain ⟨h2, hv⟩ := hv
    refine z_getSc rfl dJ0_isLatin1_aae02_7 h2 ?_
    refine z_if_ne (tgt := 17) dJ0_isLatin1_aae02_10 (by decide) (fun q3 => ?_) (fun q3 => ?_)
    · have hv := hv.1 q3
      refine z_iconst (v := 0) dJ0_isLatin1_aae02_17 (by decide) ?_
      exact z_ireturn dJ0_isLatin1_aae02_18 rfl (by decide) (Nat.le_refl _) (Nat.le_refl _) hv
    · have hv := hv.2 q3
      refine z_iconst (v := 1) dJ0_isLatin1_aae02_13 (by decide) ?_
      refine z_goto (tgt := 18) dJ0_isLatin1_aae02_14 (by decide) ?_
      exact z_ireturn dJ0_isLatin1_aae02_18 rfl (by decide) (Nat.le_refl _) (Nat.le_refl _) hv
theorem sp_isLatin1 {d a : Nat} {I : zI} {L : zL} {P : zP} (hP : zPk P) (ha : zsS a) {K : Int32 → zI → zL → zP → Prop} (kk : K 1 I L P) : zMi zm_J0_isLatin1_aae02 d [.ref a] I L P K :=
  g_J0_isLatin1_aae02 hP ⟨fun q => absurd q (by decide), fun _ => ⟨ha, fun q => absurd rfl q, fun _ => qi kk⟩⟩
abbrev gw_J0_length_8abf5 (d : Nat) (Q : zQt) (pc : Nat) (lv : zV) (st : List Value) (I : zI) (L : zL) (P : zP) : Prop := zW zm_J0_length_8abf5 (zRm d 0 0) 0 0 Q pc lv st I L P 205 0 0
abbrev v_J0_length_8abf5 (d : Nat) (Q : zQt) (a : Nat) (I : zI) (L : zL) (P : zP) : Prop :=
  zsS a ∧
  zsB (a + 1000000) ∧
  zMi zm_J0_coder_7d493 d [.ref a] I L P (fun r7 I3 L4 P5 =>
    Q (some (.int ((nI (zsl (a + 1000000))) >>> (r7 &&& 31) : Int32))) I3 L4 P5 205
  )
set_option maxRecDepth 20000 in
theorem g_J0_length_8abf5 {d : Nat} {Q : zQt} {a : Nat} {I : zI} {L : zL} {P : zP} (hP : zPk P) (hv : v_J0_length_8abf5 d Q a I L P) : zM zm_J0_length_8abf5 (d + 1) 0 0 [.ref a] I L P 205 Q := by
  unfold v_J0_length_8abf5 at hv
  refine zM_of (lv0 := [some (.ref a)]) (by decide +kernel) (Nat.le_of_ble_eq_true rfl) rfl ?_
  refine z_aload_n dJ0_length_8abf5_0 rfl ?_
  obtain ⟨h1, hv⟩ := hv
  refine z_getSv rfl dJ0_length_8abf5_1 h1 ?_
  obtain ⟨h2, hv⟩ := hv
  refine z_alenS dJ0_length_8abf5_4 h2 ?_
  refine z_aload_n dJ0_length_8abf5_5 rfl ?_
  refine z_callVS (As := []) (st := [.int (nI (zsl (a + 1000000)))]) dJ0_length_8abf5_6 zl_J0_335 zv_J0_coder_7d493 rfl h1 rfl rfl (Nat.le_of_ble_eq_true rfl) ⟨Nat.le_refl _, Nat.le_refl _⟩ ⟨Nat.le_refl _, Nat.le_refl _⟩ hv (fun v1 I3 L4 P5 nx1 q6 => ?_)
  obtain ⟨rfl, r7, rfl, hv⟩ := q6
  refine z_ishr dJ0_length_8abf5_9 ?_
  exact z_ireturn dJ0_length_8abf5_10 rfl rfl (Nat.le_refl _) (Nat.le_refl _) hv
theorem sp_length {d a : Nat} {I : zI} {L : zL} {P : zP} (hP : zPk P) (ha : zsS a) (hd : 1 ≤ d) {K : Int32 → zI → zL → zP → Prop} (kk : K (nI (zsl (a + 1000000))) I L P) : zMi zm_J0_length_8abf5 d [.ref a] I L P K := by
  obtain ⟨d, rfl⟩ : ∃ e, d = e + 1 := ⟨d - 1, by omega⟩
  refine g_J0_length_8abf5 hP ⟨ha, zsS_B ha, sp_coder hP ha (qi ?_)⟩
  have : ∀ x : Int32, (x >>> (0 &&& 31) : Int32) = x := by
    intro x
    have e : (0 &&& 31 : Int32) = 0 := by decide
    rw [e]
    apply Int32.toBitVec_inj.1
    rw [Int32.toBitVec_shiftRight]
    simp
  rw [this]
  exact kk
abbrev gw_J1_canEncode_9a6ad (d : Nat) (Q : zQt) (pc : Nat) (lv : zV) (st : List Value) (I : zI) (L : zL) (P : zP) : Prop := zW zm_J1_canEncode_9a6ad (zRm d 0 0) 0 0 Q pc lv st I L P 205 0 0
abbrev v_J1_canEncode_9a6ad (d : Nat) (Q : zQt) (p1 : Int32) (I : zI) (L : zL) (P : zP) : Prop :=
  ((p1 < 0 →
    Q (some (.int 0)) I L P 205
  ) ∧ (¬ p1 < 0 →
    ((255 < p1 →
      Q (some (.int 0)) I L P 205
    ) ∧ (¬ 255 < p1 →
      Q (some (.int 1)) I L P 205
    ))
  ))
set_option maxRecDepth 20000 in
theorem g_J1_canEncode_9a6ad {d : Nat} {Q : zQt} {p1 : Int32} {I : zI} {L : zL} {P : zP} (hP : zPk P) (hv : v_J1_canEncode_9a6ad d Q p1 I L P) : zM zm_J1_canEncode_9a6ad d 0 0 [.int p1] I L P 205 Q := by
  unfold v_J1_canEncode_9a6ad at hv
  refine zM_of (lv0 := [some (.int p1)]) (by decide +kernel) (Nat.le_of_ble_eq_true rfl) rfl ?_
  refine z_iload_n dJ1_canEncode_9a6ad_0 rfl ?_
  refine z_if_lt (tgt := 15) dJ1_canEncode_9a6ad_1 (by decide) (fun q1 => ?_) (fun q1 => ?_)
  · have hv := hv.1 q1
    refine z_iconst (v := 0) dJ1_canEncode_9a6ad_15 (by decide) ?_
    exact z_ireturn dJ1_canEncode_9a6ad_16 rfl (by decide) (Nat.le_refl _) (Nat.le_refl _) hv
  · have hv := hv.2 q1
    refine z_iload_n dJ1_canEncode_9a6ad_4 rfl ?_
    refine z_sipush (v := 255) dJ1_canEncode_9a6ad_5 (by decide) ?_
    refine z_icmp_gt (tgt := 15) dJ1_canEncode_9a6ad_8 (by decide) (fun q2 => ?_) (fun q2 => ?_)
    · have hv := hv.1 q2
      refine z_iconst (v := 0) dJ1_canEncode_9a6ad_15 (by decide) ?_
      exact z_ireturn dJ1_canEncode_9a6ad_16 rfl (by decide) (Nat.le_refl _) (Nat.le_refl _) hv
    · have hv := hv.2 q2
      refine z_iconst (v := 1) dJ1_canEncode_9a6ad_11 (by decide) ?_
      refine z_goto (tgt := 16) dJ1_canEncode_9a6ad_12 (by decide) ?_
      exact z_ireturn dJ1_canEncode_9a6ad_16 rfl (by decide) (Nat.le_refl _) (Nat.le_refl _) hv
theorem sp_canEncode {d : Nat} {I : zI} {L : zL} {P : zP} {x : Int32} (hP : zPk P) {K : Int32 → zI → zL → zP → Prop} (kk : K (bP (¬ x < 0 ∧ ¬ 255 < x)) I L P) : zMi zm_J1_canEncode_9a6ad d [.int x] I L P K := by
  refine g_J1_canEncode_9a6ad hP ⟨fun q => qi ?_, fun q => ⟨fun q2 => qi ?_, fun q2 => qi ?_⟩⟩
  · rwa [bP_f (fun z => z.1 q)] at kk
  · rwa [bP_f (fun z => z.2 q2)] at kk
  · rwa [bP_t ⟨q, q2⟩] at kk
