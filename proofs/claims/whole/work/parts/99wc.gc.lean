/-! ===== z, 9: a constant's length and chars, at any number of cells ===== -/
def zNi (nx : Nat) (y : zY) (d : Nat) (av : List Value) (I : zI) (L : zL) (P : zP) (K : Int32 → zI → zL → zP → Prop) : Prop := zM y d 0 0 av I L P nx (fun v I' L' P' nx' => nx' = nx ∧ ∃ r, v = some (.int r) ∧ K r I' L' P')
def zNv (nx : Nat) (y : zY) (d : Nat) (av : List Value) (I : zI) (L : zL) (P : zP) (K : zI → zL → zP → Prop) : Prop := zM y d 0 0 av I L P nx (fun v I' L' P' nx' => nx' = nx ∧ v = none ∧ K I' L' P')
theorem zi_q {nx : Nat} {K : Int32 → zI → zL → zP → Prop} {r : Int32} {I : zI} {L : zL} {P : zP} (h : K r I L P) : (nx = nx ∧ ∃ r', (some (Value.int r)) = some (.int r') ∧ K r' I L P) := ⟨rfl, r, rfl, h⟩
abbrev hw_J0_coder_7d493 (nx d : Nat) (Q : zQt) (pc : Nat) (lv : zV) (st : List Value) (I : zI) (L : zL) (P : zP) : Prop := zW zm_J0_coder_7d493 (zRm d 0 0) 0 0 Q pc lv st I L P nx 0 0
abbrev w_J0_coder_7d493 (nx d : Nat) (Q : zQt) (a : Nat) (I : zI) (L : zL) (P : zP) : Prop :=
  (((1 : Int32) = 0 →
    narrow .byte (.int 1) = .int 1 ∧
    Q (some (.int 1)) I L P nx
  ) ∧ (¬ (1 : Int32) = 0 →
    zsS a ∧
    narrow .byte (.int 0) = .int 0 ∧
    Q (some (.int 0)) I L P nx
  ))
set_option maxRecDepth 20000 in
theorem h_J0_coder_7d493 {nx d : Nat} {Q : zQt} {a : Nat} {I : zI} {L : zL} {P : zP} (hv : w_J0_coder_7d493 nx d Q a I L P) : zM zm_J0_coder_7d493 d 0 0 [.ref a] I L P nx Q := by
  unfold w_J0_coder_7d493 at hv
  refine zM_of (lv0 := [some (.ref a)]) (by decide +kernel) (Nat.le_of_ble_eq_true rfl) rfl ?_
  refine z_getsC rfl dJ0_coder_7d493_0 ?_
  refine z_if_eq (tgt := 13) dJ0_coder_7d493_3 (by decide) (fun q1 => ?_) (fun q1 => ?_)
  · have hv := hv.1 q1
    refine z_iconst (v := 1) dJ0_coder_7d493_13 (by decide) ?_
    obtain ⟨h2, hv⟩ := hv
    exact z_ireturn dJ0_coder_7d493_14 rfl h2 (Nat.le_refl _) (Nat.le_refl _) hv
  · have hv := hv.2 q1
    refine z_aload_n dJ0_coder_7d493_6 rfl ?_
    obtain ⟨h3, hv⟩ := hv
    refine z_getSc rfl dJ0_coder_7d493_7 h3 ?_
    refine z_goto (tgt := 14) dJ0_coder_7d493_10 (by decide) ?_
    obtain ⟨h4, hv⟩ := hv
    exact z_ireturn dJ0_coder_7d493_14 rfl h4 (Nat.le_refl _) (Nat.le_refl _) hv
theorem s2_coder {nx d a : Nat} {I : zI} {L : zL} {P : zP} (ha : zsS a) {K : Int32 → zI → zL → zP → Prop} (kk : K 0 I L P) : zNi nx zm_J0_coder_7d493 d [.ref a] I L P K :=
  h_J0_coder_7d493 ⟨fun q => absurd q (by decide), fun _ => ⟨ha, by decide, zi_q kk⟩⟩
abbrev hw_J0_isLatin1_aae02 (nx d : Nat) (Q : zQt) (pc : Nat) (lv : zV) (st : List Value) (I : zI) (L : zL) (P : zP) : Prop := zW zm_J0_isLatin1_aae02 (zRm d 0 0) 0 0 Q pc lv st I L P nx 0 0
abbrev w_J0_isLatin1_aae02 (nx d : Nat) (Q : zQt) (a : Nat) (I : zI) (L : zL) (P : zP) : Prop :=
  (((1 : Int32) = 0 →
    Q (some (.int 0)) I L P nx
  ) ∧ (¬ (1 : Int32) = 0 →
    zsS a ∧
    ((¬ (0 : Int32) = 0 →
      Q (some (.int 0)) I L P nx
    ) ∧ ((0 : Int32) = 0 →
      Q (some (.int 1)) I L P nx
    ))
  ))
set_option maxRecDepth 20000 in
theorem h_J0_isLatin1_aae02 {nx d : Nat} {Q : zQt} {a : Nat} {I : zI} {L : zL} {P : zP} (hv : w_J0_isLatin1_aae02 nx d Q a I L P) : zM zm_J0_isLatin1_aae02 d 0 0 [.ref a] I L P nx Q := by
  unfold w_J0_isLatin1_aae02 at hv
  refine zM_of (lv0 := [some (.ref a)]) (by decide +kernel) (Nat.le_of_ble_eq_true rfl) rfl ?_
  refine z_getsC rfl dJ0_isLatin1_aae02_0 ?_
  refine z_if_eq (tgt := 17) dJ0_isLatin1_aae02_3 (by decide) (fun q1 => ?_) (fun q1 => ?_)
  · have hv := hv.1 q1
    refine z_iconst (v := 0) dJ0_isLatin1_aae02_17 (by decide) ?_
    exact z_ireturn dJ0_isLatin1_aae02_18 rfl (by decide) (Nat.le_refl _) (Nat.le_refl _) hv
  · have hv := hv.2 q1
    refine z_aload_n dJ0_isLatin1_aae02_6 rfl ?_
    obtain ⟨h2, hv⟩ := hv
    refine z_getSc rfl dJ0_isLatin1_aae02_7 h2 ?_
    refine z_if_ne (tgt := 17) dJ0_isLatin1_aae02_10 (by decide) (fun q3 => ?_) (fun q3 => ?_)
    · have hv := hv.1 q3
      refine z_iconst (v := 0) dJ0_isLatin1_aae02_17 (by decide) ?_
      exact z_ireturn dJ0_isLatin1_aae02_18 rfl (by decide) (Nat.le_refl _) (Nat.le_refl _) hv
    · have hv := hv.2 q3
      refine z_iconst (v := 1) dJ0_isLatin1_aae02_13 (by decide) ?_
      refine z_goto (tgt := 18) dJ0_isLatin1_aae02_14 (by decide) ?_
      exact z_ireturn dJ0_isLatin1_aae02_18 rfl (by decide) (Nat.le_refl _) (Nat.le_refl _) hv
theorem s2_isLatin1 {nx d a : Nat} {I : zI} {L : zL} {P : zP} (ha : zsS a) {K : Int32 → zI → zL → zP → Prop} (kk : K 1 I L P) : zNi nx zm_J0_isLatin1_aae02 d [.ref a] I L P K :=
  h_J0_isLatin1_aae02 ⟨fun q => absurd q (by decide), fun _ => ⟨ha, fun q => absurd rfl q, fun _ => zi_q kk⟩⟩
abbrev hw_J0_length_8abf5 (nx d : Nat) (Q : zQt) (pc : Nat) (lv : zV) (st : List Value) (I : zI) (L : zL) (P : zP) : Prop := zW zm_J0_length_8abf5 (zRm d 0 0) 0 0 Q pc lv st I L P nx 0 0
abbrev w_J0_length_8abf5 (nx d : Nat) (Q : zQt) (a : Nat) (I : zI) (L : zL) (P : zP) : Prop :=
  zsS a ∧
  zsB (a + 1000000) ∧
  zNi nx zm_J0_coder_7d493 d [.ref a] I L P (fun r7 I3 L4 P5 =>
    Q (some (.int ((nI (zsl (a + 1000000))) >>> (r7 &&& 31) : Int32))) I3 L4 P5 nx
  )
set_option maxRecDepth 20000 in
theorem h_J0_length_8abf5 {nx d : Nat} {Q : zQt} {a : Nat} {I : zI} {L : zL} {P : zP} (hv : w_J0_length_8abf5 nx d Q a I L P) : zM zm_J0_length_8abf5 (d + 1) 0 0 [.ref a] I L P nx Q := by
  unfold w_J0_length_8abf5 at hv
  refine zM_of (lv0 := [some (.ref a)]) (by decide +kernel) (Nat.le_of_ble_eq_true rfl) rfl ?_
  refine z_aload_n dJ0_length_8abf5_0 rfl ?_
  obtain ⟨h1, hv⟩ := hv
  refine z_getSv rfl dJ0_length_8abf5_1 h1 ?_
  obtain ⟨h2, hv⟩ := hv
  refine z_alenS dJ0_length_8abf5_4 h2 ?_
  refine z_aload_n dJ0_length_8abf5_5 rfl ?_
  refine z_callVS (As := []) (st := [.int (nI (zsl (a + 1000000)))]) dJ0_length_8abf5_6 zl_J0_335 zv_J0_coder_7d493 rfl h1 rfl rfl (Nat.le_of_ble_eq_true rfl) ⟨Nat.le_refl _, Nat.le_refl _⟩ ⟨Nat.le_refl _, Nat.le_refl _⟩ hv (fun v1 I3 L4 P5 nx1 q6 => ?_)
  obtain ⟨rfl, r7, rfl, hv⟩ := q6
  refine z_ishr dJ0_length_8abf5_9 ?_
  exact z_ireturn dJ0_length_8abf5_10 rfl rfl (Nat.le_refl _) (Nat.le_refl _) hv
theorem s2_length {nx d a : Nat} {I : zI} {L : zL} {P : zP} (ha : zsS a) {K : Int32 → zI → zL → zP → Prop} (kk : K (nI (zsl (a + 1000000))) I L P) : zNi nx zm_J0_length_8abf5 (d + 1) [.ref a] I L P K := by
  refine h_J0_length_8abf5 ⟨ha, zsS_B ha, s2_coder ha (zi_q ?_)⟩
  have : ∀ x : Int32, (x >>> (0 &&& 31) : Int32) = x := by
    intro x
    have e : (0 &&& 31 : Int32) = 0 := by decide
    rw [e]
    apply Int32.toBitVec_inj.1
    rw [Int32.toBitVec_shiftRight]
    simp
  rw [this]
  exact kk
theorem zfl_1053 : Cond.fieldLink "java/lang/String" 1053 "jdk/internal/util/Preconditions" "SIOOBE_FORMATTER" "Ljava/util/function/BiFunction;" ∈ zTb := List.mem_filter.mpr ⟨by decide +kernel, rfl⟩
/-- the check of an index, whatever is handed to it as its formatter -/
theorem c_check (l : Launch) (G : zG) {nx d : Nat} {I : zI} {L : zL} {P : zP} {i n : Int32} {x : Value} (hx : x.category = 1) (h0 : ¬ i < 0) (h1 : i < n) :
    Met l zm_J3_checkIndex_8e157.1 (Cond.code zm_J3_checkIndex_8e157.1 zm_J3_checkIndex_8e157.2.1 zm_J3_checkIndex_8e157.2.2.1 zm_J3_checkIndex_8e157.2.2.2 :: zTb) (zRm d 0 0) (fun v U => v = #[.int i, .int n, x] ∧ zRel G I L P nx U.heap ∧ zK G U ∧ G.1 ≤ U.heap.size) (zQc G (fun v I' L' P' nx' => v = some (.int i) ∧ I' = I ∧ L' = L ∧ P' = P ∧ nx' = nx)) 0 0 (zA G) := by
  refine Met.ofW (cc := zm_J3_checkIndex_8e157.2.1) (maxL := 3) (ret := some .int) (by decide +kernel) rfl ?_
  intro p e s m args below meth c s₁ B hml hv
  obtain ⟨rfl, hR, hK, hB⟩ := hv
  have hx0 := B.exec
  have hb := B.bytes
  have hr := B.returns
  have hlk := B.notSynchronized
  have e3 : (lg_sl [Value.int i, .int n, x]).length = 3 := by
    show (_ :: _ :: (lg_sl [x])).length = 3
    have e : (lg_sl [x]).length = 1 := by simp [lg_sl, hx]
    simp [e]
  have hl := lv_entry ([.int i, .int n, x]) (n := 3) (Nat.le_of_eq e3)
  rw [lg_entry_eq]
  generalize (lg_sl ([.int i, .int n, x]) ++ List.replicate (3 - (lg_sl ([.int i, .int n, x])).length) Slot.unset).toArray = ls at hl ⊢
  have g0 : ls[0]? = some (.val (.int i)) := hl.2.2 (0, .int i) List.mem_cons_self
  have g1 : ls[1]? = some (.val (.int n)) := hl.2.2 (1, .int n) (List.mem_cons_of_mem _ List.mem_cons_self)
  refine lv_iload_n hx0 hb dJ3_checkIndex_8e157_0 rfl g0 ?_
  refine lv_if_lt (tgt := 9) hx0 hb dJ3_checkIndex_8e157_1 (by decide) (fun q => absurd q h0) (fun _ => ?_)
  refine lv_iload_n hx0 hb dJ3_checkIndex_8e157_4 rfl g0 ?_
  refine lv_iload_n hx0 hb dJ3_checkIndex_8e157_5 rfl g1 ?_
  refine lv_icmp_lt (tgt := 16) hx0 hb dJ3_checkIndex_8e157_6 (by decide) (fun _ => ?_) (fun q => absurd h1 q)
  refine lv_iload_n hx0 hb dJ3_checkIndex_8e157_16 rfl g0 ?_
  have hS : va_S (zA G) s.heap s.heap [] := va_S.rf
  exact W.zret (ty := .int) hx0 hb hr rfl (fun t ht hW => ⟨⟨some (.int i), I, L, P, nx, rfl, ⟨rfl, rfl, rfl, rfl, rfl⟩, by rw [ht]; exact hR⟩, hS.F ht⟩) hS.2.2 dJ3_checkIndex_8e157_17 hlk
theorem s2_check {nx d : Nat} {I : zI} {L : zL} {P : zP} {i n : Int32} (h0 : ¬ i < 0) (h1 : i < n) {K : zI → zL → zP → Prop} (kk : K I L P) : zNv nx zm_J0_checkIndex_df160 (d + 1) [.int i, .int n] I L P K := by
  refine zM_of (lv0 := [some (.int i), some (.int n)]) (by decide +kernel) (Nat.le_of_ble_eq_true rfl) rfl ?_
  refine z_iload_n dJ0_checkIndex_df160_0 rfl ?_
  refine z_iload_n dJ0_checkIndex_df160_1 rfl ?_
  intro G p l e s m args below meth c0 H locs ls C hR hS hl
  have hts := C.2.2.2.2.2.1
  have hZ := C.2.2.2.2.2.2.2.2.1.2.2.1.2.2.2.2
  have rest : ∀ x : Value, x.category = 1 → W p l e (zRm (d + 1) 0 0) s m args below meth c0 H locs 0 0 (MQ below (zQc G (fun v I' L' P' nx' => nx' = nx ∧ v = none ∧ K I' L' P')) args s 0 0 (zA G)) (F0 m 5 ls (x :: [Value.int n, .int i].map (ztr G))) := by
    intro x hx
    refine z_after (y := zm_J0_checkIndex_df160) (R := zRm (d + 1) 0 0) (pc := 5) (st := []) (mc2 := 0) (ms2 := 0) (cs := 0) (sl := 0) (As := #[.int i, .int n, x]) C hS hl (Q2 := fun v I' L' P' nx' => v = some (.int i) ∧ I' = I ∧ L' = L ∧ P' = P ∧ nx' = nx) (fun v I' L' P' nx' hq => ?_) ?_
    · obtain ⟨rfl, rfl, rfl, rfl, rfl⟩ := hq
      refine z_pop dJ0_checkIndex_df160_8 rfl ?_
      exact z_return dJ0_checkIndex_df160_9 rfl (Nat.le_refl _) (Nat.le_refl _) ⟨rfl, rfl, kk⟩
    · have hC := zl_J0_1059
      exact va_runS (As := [.int i, .int n, x]) (rest := []) (Ts := zTb) (own := RJ0) (bytes := zm_J3_checkIndex_8e157.2.1) (maxL := 3) (ret := some .int) (n := 3) (nL := 2) ⟨C.1, C.2.1, C.2.2.2.1, C.2.2.2.2.1, hts⟩ (c_check l G (d := d) hx h0 h1)
        ⟨callB_of 3 hts (ws' := zTb) (fun w hw => by rcases List.mem_cons.mp hw with q | q; rw [q]; exact zTb_good _ hC.2.1; exact zTb_good _ q) rfl rfl rfl (hts _ hC.2.2.1) (hts _ hC.1) hC.2.2.2.1 ⟨Nat.le_refl _, by show 8 + (3 + 11) + 64 * d ≤ 64 * (d + 1); omega⟩, hts _ zs_J3_checkIndex_8e157⟩
        ⟨fun a U g mk h => ⟨h.1, h.2.1, zK_calling g mk a h.2.2.1, h.2.2.2⟩, fun U hU hW => ⟨rfl, by rw [hU]; exact hR, zK_moved hW hS hU C.2.2.2.2.2.2.2.2.1, by rw [hU]; exact Nat.le_trans C.2.2.2.2.2.2.2.2.2 hS.1⟩⟩ rfl rfl hl.1 rfl (lv_room (Nat.le_of_ble_eq_true rfl)) dJ0_checkIndex_df160_5 ⟨Nat.le_refl _, Nat.le_refl _⟩
  rcases hZ with hZ | ⟨t, hZ⟩
  · exact va_gets C.1 C.2.1 hZ hS (own := "java/lang/String") C.2.2.2.2.1 (hts _ zfl_1053) (fun _ h => h) dJ0_checkIndex_df160_2 (rest _ rfl)
  · exact va_gets C.1 C.2.1 hZ hS (own := "java/lang/String") C.2.2.2.2.1 (hts _ zfl_1053) (fun _ h => h) dJ0_checkIndex_df160_2 (rest _ rfl)
abbrev hw_J1_charAt_3b067 (nx d : Nat) (Q : zQt) (pc : Nat) (lv : zV) (st : List Value) (I : zI) (L : zL) (P : zP) : Prop := zW zm_J1_charAt_3b067 (zRm d 0 0) 0 0 Q pc lv st I L P nx 0 0
abbrev w_J1_charAt_3b067 (nx d : Nat) (Q : zQt) (p1 : Nat) (p2 : Int32) (I : zI) (L : zL) (P : zP) : Prop :=
  zsB p1 ∧
  zNv nx zm_J0_checkIndex_df160 d [.int p2, .int (nI (zsl p1))] I L P (fun I2 L3 P4 =>
    vp_in p2 (zsl p1) ∧
    narrow .char (.int (((((zby p1 p2.toNatClampNeg) &&& 255 : Int32) : Int32).toUInt32 % 65536).toInt32)) = .int (((((zby p1 p2.toNatClampNeg) &&& 255 : Int32) : Int32).toUInt32 % 65536).toInt32) ∧
    Q (some (.int (((((zby p1 p2.toNatClampNeg) &&& 255 : Int32) : Int32).toUInt32 % 65536).toInt32))) I2 L3 P4 nx
  )
set_option maxRecDepth 20000 in
theorem h_J1_charAt_3b067 {nx d : Nat} {Q : zQt} {p1 : Nat} {p2 : Int32} {I : zI} {L : zL} {P : zP} (hv : w_J1_charAt_3b067 nx d Q p1 p2 I L P) : zM zm_J1_charAt_3b067 (d + 1) 0 0 [.ref p1, .int p2] I L P nx Q := by
  unfold w_J1_charAt_3b067 at hv
  refine zM_of (lv0 := [some (.ref p1), some (.int p2)]) (by decide +kernel) (Nat.le_of_ble_eq_true rfl) rfl ?_
  refine z_iload_n dJ1_charAt_3b067_0 rfl ?_
  refine z_aload_n dJ1_charAt_3b067_1 rfl ?_
  obtain ⟨h1, hv⟩ := hv
  refine z_alenS dJ1_charAt_3b067_2 h1 ?_
  refine z_callS (As := [.int p2, .int (nI (zsl p1))]) (st := []) dJ1_charAt_3b067_3 zl_J1_9 zs_J0_checkIndex_df160 rfl rfl (Nat.le_of_ble_eq_true rfl) ⟨Nat.le_refl _, Nat.le_refl _⟩ ⟨Nat.le_refl _, Nat.le_refl _⟩ hv (fun v1 I2 L3 P4 nx1 q5 => ?_)
  obtain ⟨rfl, rfl, hv⟩ := q5
  refine z_aload_n dJ1_charAt_3b067_6 rfl ?_
  refine z_iload_n dJ1_charAt_3b067_7 rfl ?_
  obtain ⟨h7, hv⟩ := hv
  refine z_baloadS dJ1_charAt_3b067_8 h1 h7 ?_
  refine z_sipush (v := 255) dJ1_charAt_3b067_9 (by decide) ?_
  refine z_iand dJ1_charAt_3b067_12 ?_
  refine z_i2c dJ1_charAt_3b067_13 ?_
  obtain ⟨h8, hv⟩ := hv
  exact z_ireturn dJ1_charAt_3b067_14 rfl h8 (Nat.le_refl _) (Nat.le_refl _) hv
theorem s2_charAt1 {nx d a k : Nat} {I : zI} {L : zL} {P : zP} (ha : zsB a) (hk : k < zsl a) (hl : zsl a < 2 ^ 31) {K : Int32 → zI → zL → zP → Prop} (kk : K (zby a k &&& 255) I L P) : zNi nx zm_J1_charAt_3b067 (d + 2) [.ref a, .int (nI k)] I L P K := by
  refine h_J1_charAt_3b067 ⟨ha, s2_check (nI_pos (by omega)) (nI_lt hk hl) ⟨vp_in_nI hk hl, ?_⟩⟩
  rw [nI_clamp (by omega), sc_c2]
  exact ⟨sc_nar _, zi_q kk⟩
abbrev hw_J0_charAt_5068e (nx d : Nat) (Q : zQt) (pc : Nat) (lv : zV) (st : List Value) (I : zI) (L : zL) (P : zP) : Prop := zW zm_J0_charAt_5068e (zRm d 0 0) 0 0 Q pc lv st I L P nx 0 0
abbrev w_J0_charAt_5068e (nx d : Nat) (Q : zQt) (a : Nat) (p1 : Int32) (I : zI) (L : zL) (P : zP) : Prop :=
  zsS a ∧
  zNi nx zm_J0_isLatin1_aae02 d [.ref a] I L P (fun r6 I2 L3 P4 =>
    ((r6 = 0 →
      False
    ) ∧ (¬ r6 = 0 →
      zNi nx zm_J1_charAt_3b067 d [.ref (a + 1000000), .int p1] I2 L3 P4 (fun r12 I8 L9 P10 =>
        narrow .char (.int r12) = .int r12 ∧
        Q (some (.int r12)) I8 L9 P10 nx
      )
    ))
  )
set_option maxRecDepth 20000 in
theorem h_J0_charAt_5068e {nx d : Nat} {Q : zQt} {a : Nat} {p1 : Int32} {I : zI} {L : zL} {P : zP} (hv : w_J0_charAt_5068e nx d Q a p1 I L P) : zM zm_J0_charAt_5068e (d + 1) 0 0 [.ref a, .int p1] I L P nx Q := by
  unfold w_J0_charAt_5068e at hv
  refine zM_of (lv0 := [some (.ref a), some (.int p1)]) (by decide +kernel) (Nat.le_of_ble_eq_true rfl) rfl ?_
  refine z_aload_n dJ0_charAt_5068e_0 rfl ?_
  obtain ⟨h1, hv⟩ := hv
  refine z_callVS (As := []) (st := []) dJ0_charAt_5068e_1 zl_J0_492 zv_J0_isLatin1_aae02 rfl h1 rfl rfl (Nat.le_of_ble_eq_true rfl) ⟨Nat.le_refl _, Nat.le_refl _⟩ ⟨Nat.le_refl _, Nat.le_refl _⟩ hv (fun v1 I2 L3 P4 nx1 q5 => ?_)
  obtain ⟨rfl, r6, rfl, hv⟩ := q5
  refine z_if_eq (tgt := 16) dJ0_charAt_5068e_4 (by decide) (fun q7 => ?_) (fun q7 => ?_)
  · have hv := hv.1 q7
    exact hv.elim
  · have hv := hv.2 q7
    refine z_aload_n dJ0_charAt_5068e_7 rfl ?_
    refine z_getSv rfl dJ0_charAt_5068e_8 h1 ?_
    refine z_iload_n dJ0_charAt_5068e_11 rfl ?_
    refine z_callS (As := [.ref (a + 1000000), .int p1]) (st := []) dJ0_charAt_5068e_12 zl_J0_495 zs_J1_charAt_3b067 rfl rfl (Nat.le_of_ble_eq_true rfl) ⟨Nat.le_refl _, Nat.le_refl _⟩ ⟨Nat.le_refl _, Nat.le_refl _⟩ hv (fun v1 I8 L9 P10 nx1 q11 => ?_)
    obtain ⟨rfl, r12, rfl, hv⟩ := q11
    obtain ⟨h13, hv⟩ := hv
    exact z_ireturn dJ0_charAt_5068e_15 rfl h13 (Nat.le_refl _) (Nat.le_refl _) hv
theorem s2_charAt {nx d a k : Nat} {I : zI} {L : zL} {P : zP} (ha : zsS a) (hk : k < zsl (a + 1000000)) (hl : zsl (a + 1000000) < 2 ^ 31) {K : Int32 → zI → zL → zP → Prop} (kk : K (zby (a + 1000000) k &&& 255) I L P) : zNi nx zm_J0_charAt_5068e (d + 3) [.ref a, .int (nI k)] I L P K := by
  refine h_J0_charAt_5068e ⟨ha, s2_isLatin1 ha ⟨fun q => absurd q (by decide), fun _ => ?_⟩⟩
  exact s2_charAt1 (zsS_B ha) hk hl ⟨sc_nar _, zi_q kk⟩
