/-! ===== the model: what it reads ===== -/
def vB (I : zI) : Nat := (I 160 28).toNatClampNeg
def vNp (I : zI) : Nat := (I 163 (vB I)).toNatClampNeg
def vN (I : zI) : Nat := 2 ^ vNp I
/-- the bank and how many people -/
def MB (I : zI) : Prop := (vB I < 2 ∧ I 160 28 = nI (vB I)) ∧ vNp I ≤ 8 ∧ I 163 (vB I) = nI (vNp I)
theorem vN_le {I : zI} (h : MB I) : vN I ≤ 256 := pw8 h.2.1
theorem vN_pos (I : zI) : 0 < vN I := pw0 _
abbrev gw_X12_manyOf (d : Nat) (Q : zQt) (pc : Nat) (lv : zV) (st : List Value) (I : zI) (L : zL) (P : zP) : Prop := zW zm_X12_manyOf (zRm d 0 0) 0 0 Q pc lv st I L P 205 0 0
abbrev v_X12_manyOf (d : Nat) (Q : zQt)  (I : zI) (L : zL) (P : zP) : Prop :=
  vp_in (I 160 28) 2 ∧
  Q (some (.int (I 163 (I 160 28).toNatClampNeg))) I L P 205
set_option maxRecDepth 20000 in
theorem g_X12_manyOf {d : Nat} {Q : zQt}  {I : zI} {L : zL} {P : zP} (hP : zPk P) (hv : v_X12_manyOf d Q  I L P) : zM zm_X12_manyOf d 0 0 [.ref 160] I L P 205 Q := by
  unfold v_X12_manyOf at hv
  refine zM_of (lv0 := [some (.ref 160)]) (by decide +kernel) (Nat.le_of_ble_eq_true rfl) rfl ?_
  refine z_aload_n dX12_manyOf_0 rfl ?_
  refine z_getP dX12_manyOf_1 zf_X12_20 zn_160 zo_160 (fun _ _ _ _ _ => rfl) (hP 160 11 163 zp_160_11) ?_
  refine z_aload_n dX12_manyOf_4 rfl ?_
  refine z_getI dX12_manyOf_5 zf_X12_261 zn_160 zo_160 (fun _ _ _ _ _ => rfl) ?_
  obtain ⟨h1, hv⟩ := hv
  refine z_iaload dX12_manyOf_8 zn_163 zh_163 h1 ?_
  exact z_ireturn dX12_manyOf_9 rfl rfl (Nat.le_refl _) (Nat.le_refl _) hv
theorem sp_X12_manyOf {d : Nat} {I : zI} {L : zL} {P : zP} (hP : zPk P) (h : MB I) {K : Int32 → zI → zL → zP → Prop} (k : K (nI (vNp I)) I L P) : zMi zm_X12_manyOf d [.ref 160] I L P K :=
  g_X12_manyOf hP ⟨by rw [h.1.2]; exact nx_in h.1.1 (by decide), qi (by show K (I 163 (vB I)) I L P; rw [h.2.2]; exact k)⟩
abbrev gw_X12_worldMany (d : Nat) (Q : zQt) (pc : Nat) (lv : zV) (st : List Value) (I : zI) (L : zL) (P : zP) : Prop := zW zm_X12_worldMany (zRm d 0 0) 0 0 Q pc lv st I L P 205 0 0
abbrev v_X12_worldMany (d : Nat) (Q : zQt)  (I : zI) (L : zL) (P : zP) : Prop :=
  MB I ∧
  Q (some (.int ((1 : Int32) <<< ((nI (vNp I)) &&& 31) : Int32))) I L P 205
set_option maxRecDepth 20000 in
theorem g_X12_worldMany {d : Nat} {Q : zQt}  {I : zI} {L : zL} {P : zP} (hP : zPk P) (hv : v_X12_worldMany d Q  I L P) : zM zm_X12_worldMany (d + 1) 0 0 [.ref 160] I L P 205 Q := by
  unfold v_X12_worldMany at hv
  refine zM_of (lv0 := [some (.ref 160)]) (by decide +kernel) (Nat.le_of_ble_eq_true rfl) rfl ?_
  refine z_iconst (v := 1) dX12_worldMany_0 (by decide) ?_
  refine z_aload_n dX12_worldMany_1 rfl ?_
  obtain ⟨h1, hv⟩ := hv
  refine z_callV (As := []) (st := [.int 1]) dX12_worldMany_2 zl_X12_339 zv_X12_manyOf (by decide) rfl zn_160 zo_160 rfl rfl (Nat.le_of_ble_eq_true rfl) ⟨Nat.le_refl _, Nat.le_refl _⟩ ⟨Nat.le_refl _, Nat.le_refl _⟩ (sp_X12_manyOf hP h1 (K := fun r I' L' P' => nI (vNp I) = r ∧ I = I' ∧ L = L' ∧ P = P') ⟨rfl, rfl, rfl, rfl⟩) (fun v1 I2 L2 P2 nx1 q3 => ?_)
  obtain ⟨rfl, r2, rfl, rfl, rfl, rfl, rfl⟩ := q3
  refine z_ishl dX12_worldMany_5 ?_
  exact z_ireturn dX12_worldMany_6 rfl rfl (Nat.le_refl _) (Nat.le_refl _) hv
theorem sp_X12_worldMany {d : Nat} {I : zI} {L : zL} {P : zP} (hP : zPk P) (h : MB I) (hd : 1 ≤ d) {K : Int32 → zI → zL → zP → Prop} (k : K (nI (vN I)) I L P) : zMi zm_X12_worldMany d [.ref 160] I L P K := by
  obtain ⟨d, rfl⟩ : ∃ e, d = e + 1 := ⟨d - 1, by omega⟩
  refine g_X12_worldMany hP ⟨h, qi ?_⟩
  have := h.2.1
  have h2 := pw8 this
  rw [show (1 : Int32) = nI 1 from rfl, nx_shl (by omega) (by omega), Nat.one_mul]
  exact k
abbrev gw_X12_isIn (d : Nat) (Q : zQt) (pc : Nat) (lv : zV) (st : List Value) (I : zI) (L : zL) (P : zP) : Prop := zW zm_X12_isIn (zRm d 0 0) 0 0 Q pc lv st I L P 205 0 0
abbrev v_X12_isIn (d : Nat) (Q : zQt) (p1 : Int32) (p2 : Int32) (p3 : Int32) (I : zI) (L : zL) (P : zP) : Prop :=
  ((p1 < p2 →
    Q (some (.int 0)) I L P 205
  ) ∧ (¬ p1 < p2 →
    ((p3 < p1 →
      Q (some (.int 0)) I L P 205
    ) ∧ (¬ p3 < p1 →
      Q (some (.int 1)) I L P 205
    ))
  ))
set_option maxRecDepth 20000 in
theorem g_X12_isIn {d : Nat} {Q : zQt} {p1 : Int32} {p2 : Int32} {p3 : Int32} {I : zI} {L : zL} {P : zP} (hP : zPk P) (hv : v_X12_isIn d Q p1 p2 p3 I L P) : zM zm_X12_isIn d 0 0 [.int p1, .int p2, .int p3] I L P 205 Q := by
  unfold v_X12_isIn at hv
  refine zM_of (lv0 := [some (.int p1), some (.int p2), some (.int p3)]) (by decide +kernel) (Nat.le_of_ble_eq_true rfl) rfl ?_
  refine z_iload_n dX12_isIn_0 rfl ?_
  refine z_iload_n dX12_isIn_1 rfl ?_
  refine z_icmp_lt (tgt := 14) dX12_isIn_2 (by decide) (fun q1 => ?_) (fun q1 => ?_)
  · have hv := hv.1 q1
    refine z_iconst (v := 0) dX12_isIn_14 (by decide) ?_
    exact z_ireturn dX12_isIn_15 rfl (by decide) (Nat.le_refl _) (Nat.le_refl _) hv
  · have hv := hv.2 q1
    refine z_iload_n dX12_isIn_5 rfl ?_
    refine z_iload_n dX12_isIn_6 rfl ?_
    refine z_icmp_gt (tgt := 14) dX12_isIn_7 (by decide) (fun q2 => ?_) (fun q2 => ?_)
    · have hv := hv.1 q2
      refine z_iconst (v := 0) dX12_isIn_14 (by decide) ?_
      exact z_ireturn dX12_isIn_15 rfl (by decide) (Nat.le_refl _) (Nat.le_refl _) hv
    · have hv := hv.2 q2
      refine z_iconst (v := 1) dX12_isIn_10 (by decide) ?_
      refine z_goto (tgt := 15) dX12_isIn_11 (by decide) ?_
      exact z_ireturn dX12_isIn_15 rfl (by decide) (Nat.le_refl _) (Nat.le_refl _) hv
theorem sp_X12_isIn {d : Nat} {I : zI} {L : zL} {P : zP} {a b c : Int32} (hP : zPk P) {K : Int32 → zI → zL → zP → Prop} (k : K (bP (¬ a < b ∧ ¬ c < a)) I L P) : zMi zm_X12_isIn d [.int a, .int b, .int c] I L P K := by
  refine g_X12_isIn hP ⟨fun q => qi ?_, fun q => ⟨fun q2 => qi ?_, fun q2 => qi ?_⟩⟩
  · rwa [bP_f (fun h => h.1 q)] at k
  · rwa [bP_f (fun h => h.2 q2)] at k
  · rwa [bP_t ⟨q, q2⟩] at k
theorem isIn_iff {v : Int32} {n : Nat} (hn : n < 2 ^ 31) : (¬ v < 0 ∧ ¬ nI n - 1 < v) ↔ vp_in v n := by
  rw [vp_in_iff, Int32.lt_iff_toInt_lt, Int32.lt_iff_toInt_lt]
  have h1 : (nI n - 1).toInt = (n : Int) - 1 := by
    rw [show (1 : Int32) = nI 1 from rfl]
    rcases Nat.eq_zero_or_pos n with h | h
    · subst h; decide
    · rw [pk_sub (by omega), nI_toInt (by omega)]; omega
  rw [h1]
  have h0 : (0 : Int32).toInt = 0 := by decide
  rw [h0]
  omega
abbrev gw_X12_isOne (d : Nat) (Q : zQt) (pc : Nat) (lv : zV) (st : List Value) (I : zI) (L : zL) (P : zP) : Prop := zW zm_X12_isOne (zRm d 0 0) 0 0 Q pc lv st I L P 205 0 0
abbrev v_X12_isOne (d : Nat) (Q : zQt) (p1 : Int32) (I : zI) (L : zL) (P : zP) : Prop :=
  MB I ∧
  (bP (¬ p1 < 0 ∧ ¬ ((nI (vNp I)) - 1) < p1) = 0 ∨ bP (¬ p1 < 0 ∧ ¬ ((nI (vNp I)) - 1) < p1) = 1) ∧
  Q (some (.int (bP (¬ p1 < 0 ∧ ¬ ((nI (vNp I)) - 1) < p1)))) I L P 205
set_option maxRecDepth 20000 in
theorem g_X12_isOne {d : Nat} {Q : zQt} {p1 : Int32} {I : zI} {L : zL} {P : zP} (hP : zPk P) (hv : v_X12_isOne d Q p1 I L P) : zM zm_X12_isOne (d + 1) 0 0 [.ref 160, .int p1] I L P 205 Q := by
  unfold v_X12_isOne at hv
  refine zM_of (lv0 := [some (.ref 160), some (.int p1)]) (by decide +kernel) (Nat.le_of_ble_eq_true rfl) rfl ?_
  refine z_iload_n dX12_isOne_0 rfl ?_
  refine z_iconst (v := 0) dX12_isOne_1 (by decide) ?_
  refine z_aload_n dX12_isOne_2 rfl ?_
  obtain ⟨h1, hv⟩ := hv
  refine z_callV (As := []) (st := [.int 0, .int p1]) dX12_isOne_3 zl_X12_339 zv_X12_manyOf (by decide) rfl zn_160 zo_160 rfl rfl (Nat.le_of_ble_eq_true rfl) ⟨Nat.le_refl _, Nat.le_refl _⟩ ⟨Nat.le_refl _, Nat.le_refl _⟩ (sp_X12_manyOf hP h1 (K := fun r I' L' P' => nI (vNp I) = r ∧ I = I' ∧ L = L' ∧ P = P') ⟨rfl, rfl, rfl, rfl⟩) (fun v1 I2 L2 P2 nx1 q3 => ?_)
  obtain ⟨rfl, r2, rfl, rfl, rfl, rfl, rfl⟩ := q3
  refine z_iconst (v := 1) dX12_isOne_6 (by decide) ?_
  refine z_isub dX12_isOne_7 ?_
  refine z_callS (As := [.int p1, .int 0, .int ((nI (vNp I)) - 1)]) (st := []) dX12_isOne_8 zl_X12_342 zs_X12_isIn rfl rfl (Nat.le_of_ble_eq_true rfl) ⟨Nat.le_refl _, Nat.le_refl _⟩ ⟨Nat.le_refl _, Nat.le_refl _⟩ (sp_X12_isIn hP (K := fun r I' L' P' => bP (¬ p1 < 0 ∧ ¬ ((nI (vNp I)) - 1) < p1) = r ∧ I = I' ∧ L = L' ∧ P = P') ⟨rfl, rfl, rfl, rfl⟩) (fun v1 I2 L2 P2 nx1 q5 => ?_)
  obtain ⟨rfl, r4, rfl, rfl, rfl, rfl, rfl⟩ := q5
  obtain ⟨h6, hv⟩ := hv
  exact z_ireturn dX12_isOne_11 rfl (zbn h6) (Nat.le_refl _) (Nat.le_refl _) hv
theorem sp_X12_isOne {d : Nat} {I : zI} {L : zL} {P : zP} {a : Int32} (hP : zPk P) (h : MB I) (hd : 1 ≤ d) {K : Int32 → zI → zL → zP → Prop} (k : K (bP (vp_in a (vNp I))) I L P) : zMi zm_X12_isOne d [.ref 160, .int a] I L P K := by
  obtain ⟨d, rfl⟩ : ∃ e, d = e + 1 := ⟨d - 1, by omega⟩
  refine g_X12_isOne hP ⟨h, bP_or _, qi ?_⟩
  rw [bP_c (isIn_iff (by have := h.2.1; omega))]
  exact k
abbrev gw_X12_isWorld (d : Nat) (Q : zQt) (pc : Nat) (lv : zV) (st : List Value) (I : zI) (L : zL) (P : zP) : Prop := zW zm_X12_isWorld (zRm d 0 0) 0 0 Q pc lv st I L P 205 0 0
abbrev v_X12_isWorld (d : Nat) (Q : zQt) (p1 : Int32) (I : zI) (L : zL) (P : zP) : Prop :=
  MB I ∧
  (bP (¬ p1 < 0 ∧ ¬ ((nI (vN I)) - 1) < p1) = 0 ∨ bP (¬ p1 < 0 ∧ ¬ ((nI (vN I)) - 1) < p1) = 1) ∧
  Q (some (.int (bP (¬ p1 < 0 ∧ ¬ ((nI (vN I)) - 1) < p1)))) I L P 205
set_option maxRecDepth 20000 in
theorem g_X12_isWorld {d : Nat} {Q : zQt} {p1 : Int32} {I : zI} {L : zL} {P : zP} (hP : zPk P) (hd : 1 ≤ d) (hv : v_X12_isWorld d Q p1 I L P) : zM zm_X12_isWorld (d + 1) 0 0 [.ref 160, .int p1] I L P 205 Q := by
  unfold v_X12_isWorld at hv
  refine zM_of (lv0 := [some (.ref 160), some (.int p1)]) (by decide +kernel) (Nat.le_of_ble_eq_true rfl) rfl ?_
  refine z_iload_n dX12_isWorld_0 rfl ?_
  refine z_iconst (v := 0) dX12_isWorld_1 (by decide) ?_
  refine z_aload_n dX12_isWorld_2 rfl ?_
  obtain ⟨h1, hv⟩ := hv
  refine z_callV (As := []) (st := [.int 0, .int p1]) dX12_isWorld_3 zl_X12_346 zv_X12_worldMany (by decide) rfl zn_160 zo_160 rfl rfl (Nat.le_of_ble_eq_true rfl) ⟨Nat.le_refl _, Nat.le_refl _⟩ ⟨Nat.le_refl _, Nat.le_refl _⟩ (sp_X12_worldMany hP h1 (by omega) (K := fun r I' L' P' => nI (vN I) = r ∧ I = I' ∧ L = L' ∧ P = P') ⟨rfl, rfl, rfl, rfl⟩) (fun v1 I2 L2 P2 nx1 q3 => ?_)
  obtain ⟨rfl, r2, rfl, rfl, rfl, rfl, rfl⟩ := q3
  refine z_iconst (v := 1) dX12_isWorld_6 (by decide) ?_
  refine z_isub dX12_isWorld_7 ?_
  refine z_callS (As := [.int p1, .int 0, .int ((nI (vN I)) - 1)]) (st := []) dX12_isWorld_8 zl_X12_342 zs_X12_isIn rfl rfl (Nat.le_of_ble_eq_true rfl) ⟨Nat.le_refl _, Nat.le_refl _⟩ ⟨Nat.le_refl _, Nat.le_refl _⟩ (sp_X12_isIn hP (K := fun r I' L' P' => bP (¬ p1 < 0 ∧ ¬ ((nI (vN I)) - 1) < p1) = r ∧ I = I' ∧ L = L' ∧ P = P') ⟨rfl, rfl, rfl, rfl⟩) (fun v1 I2 L2 P2 nx1 q5 => ?_)
  obtain ⟨rfl, r4, rfl, rfl, rfl, rfl, rfl⟩ := q5
  obtain ⟨h6, hv⟩ := hv
  exact z_ireturn dX12_isWorld_11 rfl (zbn h6) (Nat.le_refl _) (Nat.le_refl _) hv
theorem sp_X12_isWorld {d : Nat} {I : zI} {L : zL} {P : zP} {a : Int32} (hP : zPk P) (h : MB I) (hd : 2 ≤ d) {K : Int32 → zI → zL → zP → Prop} (k : K (bP (vp_in a (vN I))) I L P) : zMi zm_X12_isWorld d [.ref 160, .int a] I L P K := by
  obtain ⟨d, rfl⟩ : ∃ e, d = e + 1 := ⟨d - 1, by omega⟩
  refine g_X12_isWorld hP (by omega) ⟨h, bP_or _, qi ?_⟩
  rw [bP_c (isIn_iff (by have := vN_le h; omega))]
  exact k
