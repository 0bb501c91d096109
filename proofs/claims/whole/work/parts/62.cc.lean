/-! ===== the class: islands' heads, kinds, codes ===== -/
abbrev gw_X2_worldCount (d : Nat) (Q : zQt) (pc : Nat) (lv : zV) (st : List Value) (I : zI) (L : zL) (P : zP) : Prop := zW zm_X2_worldCount (zRm d 0 0) 0 0 Q pc lv st I L P 205 0 0
abbrev v_X2_worldCount (d : Nat) (Q : zQt) (a : Nat) (I : zI) (L : zL) (P : zP) : Prop :=
  (a < 205 ∧ (zsh a).1 = 2) ∧
  Q (some (.int ((1 : Int32) <<< ((I a 0) &&& 31) : Int32))) I L P 205
set_option maxRecDepth 20000 in
theorem g_X2_worldCount {d : Nat} {Q : zQt} {a : Nat} {I : zI} {L : zL} {P : zP} (hP : zPk P) (hv : v_X2_worldCount d Q a I L P) : zM zm_X2_worldCount d 0 0 [.ref a] I L P 205 Q := by
  unfold v_X2_worldCount at hv
  refine zM_of (lv0 := [some (.ref a)]) (by decide +kernel) (Nat.le_of_ble_eq_true rfl) rfl ?_
  refine z_iconst (v := 1) dX2_worldCount_0 (by decide) ?_
  refine z_aload_n dX2_worldCount_1 rfl ?_
  obtain ⟨h1, hv⟩ := hv
  refine z_getI dX2_worldCount_2 zf_X2_29 h1.1 h1.2 (fun _ _ _ _ _ => rfl) ?_
  refine z_ishl dX2_worldCount_5 ?_
  exact z_ireturn dX2_worldCount_6 rfl rfl (Nat.le_refl _) (Nat.le_refl _) hv
theorem in9 {x : Int32} (h : vp_in x 9) : ∃ k, k ≤ 8 ∧ x = nI k := by
  obtain ⟨k, hk, e⟩ := vp_in_of h (by decide)
  exact ⟨k, by omega, e⟩
theorem sp_X2_worldCount {d t : Nat} {I : zI} {L : zL} {P : zP} (hP : zPk P) (ht : il t) (h : vp_in (I t 0) 9) {K : Int32 → zI → zL → zP → Prop} (k : K (nI (2 ^ (I t 0).toNatClampNeg)) I L P) : zMi zm_X2_worldCount d [.ref t] I L P K := by
  refine g_X2_worldCount hP ⟨(il_P ht hP).1, qi ?_⟩
  obtain ⟨n, hn, e⟩ := in9 h
  have := pw8 hn
  rw [e, nI_cl (by omega)] at k
  rw [e, show (1 : Int32) = nI 1 from rfl, nx_shl (by omega) (by omega), Nat.one_mul]
  exact k
theorem pin {x : Int32} {n : Nat} (hn : n < 2 ^ 31) : (¬ x < 0 ∧ ¬ nI n ≤ x) ↔ vp_in x n := by
  rw [vp_in_iff, Int32.lt_iff_toInt_lt, Int32.le_iff_toInt_le, nI_toInt hn]
  have h0 : (0 : Int32).toInt = 0 := by decide
  rw [h0]
  omega
abbrev gw_X2_isPerson (d : Nat) (Q : zQt) (pc : Nat) (lv : zV) (st : List Value) (I : zI) (L : zL) (P : zP) : Prop := zW zm_X2_isPerson (zRm d 0 0) 0 0 Q pc lv st I L P 205 0 0
abbrev v_X2_isPerson (d : Nat) (Q : zQt) (a : Nat) (p1 : Int32) (I : zI) (L : zL) (P : zP) : Prop :=
  ((p1 < 0 →
    Q (some (.int 0)) I L P 205
  ) ∧ (¬ p1 < 0 →
    (a < 205 ∧ (zsh a).1 = 2) ∧
    (((I a 0) ≤ p1 →
      Q (some (.int 0)) I L P 205
    ) ∧ (¬ (I a 0) ≤ p1 →
      Q (some (.int 1)) I L P 205
    ))
  ))
set_option maxRecDepth 20000 in
theorem g_X2_isPerson {d : Nat} {Q : zQt} {a : Nat} {p1 : Int32} {I : zI} {L : zL} {P : zP} (hP : zPk P) (hv : v_X2_isPerson d Q a p1 I L P) : zM zm_X2_isPerson d 0 0 [.ref a, .int p1] I L P 205 Q := by
  unfold v_X2_isPerson at hv
  refine zM_of (lv0 := [some (.ref a), some (.int p1)]) (by decide +kernel) (Nat.le_of_ble_eq_true rfl) rfl ?_
  refine z_iload_n dX2_isPerson_0 rfl ?_
  refine z_if_lt (tgt := 16) dX2_isPerson_1 (by decide) (fun q1 => ?_) (fun q1 => ?_)
  · have hv := hv.1 q1
    refine z_iconst (v := 0) dX2_isPerson_16 (by decide) ?_
    exact z_ireturn dX2_isPerson_17 rfl (by decide) (Nat.le_refl _) (Nat.le_refl _) hv
  · have hv := hv.2 q1
    refine z_iload_n dX2_isPerson_4 rfl ?_
    refine z_aload_n dX2_isPerson_5 rfl ?_
    obtain ⟨h2, hv⟩ := hv
    refine z_getI dX2_isPerson_6 zf_X2_29 h2.1 h2.2 (fun _ _ _ _ _ => rfl) ?_
    refine z_icmp_ge (tgt := 16) dX2_isPerson_9 (by decide) (fun q3 => ?_) (fun q3 => ?_)
    · have hv := hv.1 q3
      refine z_iconst (v := 0) dX2_isPerson_16 (by decide) ?_
      exact z_ireturn dX2_isPerson_17 rfl (by decide) (Nat.le_refl _) (Nat.le_refl _) hv
    · have hv := hv.2 q3
      refine z_iconst (v := 1) dX2_isPerson_12 (by decide) ?_
      refine z_goto (tgt := 17) dX2_isPerson_13 (by decide) ?_
      exact z_ireturn dX2_isPerson_17 rfl (by decide) (Nat.le_refl _) (Nat.le_refl _) hv
theorem sp_X2_isPerson {d t : Nat} {I : zI} {L : zL} {P : zP} {x : Int32} (hP : zPk P) (ht : il t) (h : vp_in (I t 0) 9) {K : Int32 → zI → zL → zP → Prop} (k : K (bP (vp_in x (I t 0).toNatClampNeg)) I L P) : zMi zm_X2_isPerson d [.ref t, .int x] I L P K := by
  obtain ⟨n, hn, e⟩ := in9 h
  rw [e, nI_cl (by omega)] at k
  have w := pin (x := x) (n := n) (by omega)
  refine g_X2_isPerson hP ⟨fun q => qi ?_, fun q => ⟨(il_P ht hP).1, fun q2 => qi ?_, fun q2 => qi ?_⟩⟩
  · rwa [bP_f (fun z => (w.mpr z).1 q)] at k
  · rw [e] at q2
    rwa [bP_f (fun z => (w.mpr z).2 q2)] at k
  · rw [e] at q2
    rwa [bP_t (w.mp ⟨q, q2⟩)] at k
abbrev gw_X2_arePeople (d : Nat) (Q : zQt) (pc : Nat) (lv : zV) (st : List Value) (I : zI) (L : zL) (P : zP) : Prop := zW zm_X2_arePeople (zRm d 0 0) 0 0 Q pc lv st I L P 205 0 0
abbrev v_X2_arePeople (d : Nat) (Q : zQt) (a : Nat) (p1 : Int32) (I : zI) (L : zL) (P : zP) : Prop :=
  ((p1 < 0 →
    Q (some (.int 0)) I L P 205
  ) ∧ (¬ p1 < 0 →
    (a < 205 ∧ (zsh a).1 = 2) ∧
    il a ∧
    vp_in (I a 0) 9 ∧
    (((nI (2 ^ (I a 0).toNatClampNeg)) ≤ p1 →
      Q (some (.int 0)) I L P 205
    ) ∧ (¬ (nI (2 ^ (I a 0).toNatClampNeg)) ≤ p1 →
      Q (some (.int 1)) I L P 205
    ))
  ))
set_option maxRecDepth 20000 in
theorem g_X2_arePeople {d : Nat} {Q : zQt} {a : Nat} {p1 : Int32} {I : zI} {L : zL} {P : zP} (hP : zPk P) (hv : v_X2_arePeople d Q a p1 I L P) : zM zm_X2_arePeople (d + 1) 0 0 [.ref a, .int p1] I L P 205 Q := by
  unfold v_X2_arePeople at hv
  refine zM_of (lv0 := [some (.ref a), some (.int p1)]) (by decide +kernel) (Nat.le_of_ble_eq_true rfl) rfl ?_
  refine z_iload_n dX2_arePeople_0 rfl ?_
  refine z_if_lt (tgt := 16) dX2_arePeople_1 (by decide) (fun q1 => ?_) (fun q1 => ?_)
  · have hv := hv.1 q1
    refine z_iconst (v := 0) dX2_arePeople_16 (by decide) ?_
    exact z_ireturn dX2_arePeople_17 rfl (by decide) (Nat.le_refl _) (Nat.le_refl _) hv
  · have hv := hv.2 q1
    refine z_iload_n dX2_arePeople_4 rfl ?_
    refine z_aload_n dX2_arePeople_5 rfl ?_
    obtain ⟨h2, hv⟩ := hv
    obtain ⟨h3, hv⟩ := hv
    obtain ⟨h4, hv⟩ := hv
    refine z_callV (As := []) (st := [.int p1]) dX2_arePeople_6 zl_X2_55 zv_X2_worldCount (by decide) rfl h2.1 h2.2 rfl rfl (Nat.le_of_ble_eq_true rfl) ⟨Nat.le_refl _, Nat.le_refl _⟩ ⟨Nat.le_refl _, Nat.le_refl _⟩ (sp_X2_worldCount hP h3 h4 (K := fun r I' L' P' => nI (2 ^ (I a 0).toNatClampNeg) = r ∧ I = I' ∧ L = L' ∧ P = P') ⟨rfl, rfl, rfl, rfl⟩) (fun v1 I2 L2 P2 nx1 q6 => ?_)
    obtain ⟨rfl, r5, rfl, rfl, rfl, rfl, rfl⟩ := q6
    refine z_icmp_ge (tgt := 16) dX2_arePeople_9 (by decide) (fun q7 => ?_) (fun q7 => ?_)
    · have hv := hv.1 q7
      refine z_iconst (v := 0) dX2_arePeople_16 (by decide) ?_
      exact z_ireturn dX2_arePeople_17 rfl (by decide) (Nat.le_refl _) (Nat.le_refl _) hv
    · have hv := hv.2 q7
      refine z_iconst (v := 1) dX2_arePeople_12 (by decide) ?_
      refine z_goto (tgt := 17) dX2_arePeople_13 (by decide) ?_
      exact z_ireturn dX2_arePeople_17 rfl (by decide) (Nat.le_refl _) (Nat.le_refl _) hv
theorem sp_X2_arePeople {d t : Nat} {I : zI} {L : zL} {P : zP} {x : Int32} (hP : zPk P) (ht : il t) (h : vp_in (I t 0) 9) (hd : 1 ≤ d) {K : Int32 → zI → zL → zP → Prop} (k : K (bP (vp_in x (2 ^ (I t 0).toNatClampNeg))) I L P) : zMi zm_X2_arePeople d [.ref t, .int x] I L P K := by
  obtain ⟨d, rfl⟩ : ∃ e, d = e + 1 := ⟨d - 1, by omega⟩
  have hn : 2 ^ (I t 0).toNatClampNeg ≤ 256 := by
    obtain ⟨n, hn, e⟩ := in9 h
    rw [e, nI_cl (by omega)]; exact pw8 hn
  have w := pin (x := x) (n := 2 ^ (I t 0).toNatClampNeg) (by omega)
  refine g_X2_arePeople hP ⟨fun q => qi ?_, fun q => ⟨(il_P ht hP).1, ht, h, fun q2 => qi ?_, fun q2 => qi ?_⟩⟩
  · rwa [bP_f (fun z => (w.mpr z).1 q)] at k
  · rwa [bP_f (fun z => (w.mpr z).2 q2)] at k
  · rwa [bP_t (w.mp ⟨q, q2⟩)] at k
abbrev gw_X2_isWorld (d : Nat) (Q : zQt) (pc : Nat) (lv : zV) (st : List Value) (I : zI) (L : zL) (P : zP) : Prop := zW zm_X2_isWorld (zRm d 0 0) 0 0 Q pc lv st I L P 205 0 0
abbrev v_X2_isWorld (d : Nat) (Q : zQt) (a : Nat) (p1 : Int32) (I : zI) (L : zL) (P : zP) : Prop :=
  ((p1 < 0 →
    Q (some (.int 0)) I L P 205
  ) ∧ (¬ p1 < 0 →
    (a < 205 ∧ (zsh a).1 = 2) ∧
    il a ∧
    vp_in (I a 0) 9 ∧
    (((nI (2 ^ (I a 0).toNatClampNeg)) ≤ p1 →
      Q (some (.int 0)) I L P 205
    ) ∧ (¬ (nI (2 ^ (I a 0).toNatClampNeg)) ≤ p1 →
      Q (some (.int 1)) I L P 205
    ))
  ))
set_option maxRecDepth 20000 in
theorem g_X2_isWorld {d : Nat} {Q : zQt} {a : Nat} {p1 : Int32} {I : zI} {L : zL} {P : zP} (hP : zPk P) (hv : v_X2_isWorld d Q a p1 I L P) : zM zm_X2_isWorld (d + 1) 0 0 [.ref a, .int p1] I L P 205 Q := by
  unfold v_X2_isWorld at hv
  refine zM_of (lv0 := [some (.ref a), some (.int p1)]) (by decide +kernel) (Nat.le_of_ble_eq_true rfl) rfl ?_
  refine z_iload_n dX2_isWorld_0 rfl ?_
  refine z_if_lt (tgt := 16) dX2_isWorld_1 (by decide) (fun q1 => ?_) (fun q1 => ?_)
  · have hv := hv.1 q1
    refine z_iconst (v := 0) dX2_isWorld_16 (by decide) ?_
    exact z_ireturn dX2_isWorld_17 rfl (by decide) (Nat.le_refl _) (Nat.le_refl _) hv
  · have hv := hv.2 q1
    refine z_iload_n dX2_isWorld_4 rfl ?_
    refine z_aload_n dX2_isWorld_5 rfl ?_
    obtain ⟨h2, hv⟩ := hv
    obtain ⟨h3, hv⟩ := hv
    obtain ⟨h4, hv⟩ := hv
    refine z_callV (As := []) (st := [.int p1]) dX2_isWorld_6 zl_X2_55 zv_X2_worldCount (by decide) rfl h2.1 h2.2 rfl rfl (Nat.le_of_ble_eq_true rfl) ⟨Nat.le_refl _, Nat.le_refl _⟩ ⟨Nat.le_refl _, Nat.le_refl _⟩ (sp_X2_worldCount hP h3 h4 (K := fun r I' L' P' => nI (2 ^ (I a 0).toNatClampNeg) = r ∧ I = I' ∧ L = L' ∧ P = P') ⟨rfl, rfl, rfl, rfl⟩) (fun v1 I2 L2 P2 nx1 q6 => ?_)
    obtain ⟨rfl, r5, rfl, rfl, rfl, rfl, rfl⟩ := q6
    refine z_icmp_ge (tgt := 16) dX2_isWorld_9 (by decide) (fun q7 => ?_) (fun q7 => ?_)
    · have hv := hv.1 q7
      refine z_iconst (v := 0) dX2_isWorld_16 (by decide) ?_
      exact z_ireturn dX2_isWorld_17 rfl (by decide) (Nat.le_refl _) (Nat.le_refl _) hv
    · have hv := hv.2 q7
      refine z_iconst (v := 1) dX2_isWorld_12 (by decide) ?_
      refine z_goto (tgt := 17) dX2_isWorld_13 (by decide) ?_
      exact z_ireturn dX2_isWorld_17 rfl (by decide) (Nat.le_refl _) (Nat.le_refl _) hv
theorem sp_X2_isWorld {d t : Nat} {I : zI} {L : zL} {P : zP} {x : Int32} (hP : zPk P) (ht : il t) (h : vp_in (I t 0) 9) (hd : 1 ≤ d) {K : Int32 → zI → zL → zP → Prop} (k : K (bP (vp_in x (2 ^ (I t 0).toNatClampNeg))) I L P) : zMi zm_X2_isWorld d [.ref t, .int x] I L P K := by
  obtain ⟨d, rfl⟩ : ∃ e, d = e + 1 := ⟨d - 1, by omega⟩
  have hn : 2 ^ (I t 0).toNatClampNeg ≤ 256 := by
    obtain ⟨n, hn, e⟩ := in9 h
    rw [e, nI_cl (by omega)]; exact pw8 hn
  have w := pin (x := x) (n := 2 ^ (I t 0).toNatClampNeg) (by omega)
  refine g_X2_isWorld hP ⟨fun q => qi ?_, fun q => ⟨(il_P ht hP).1, ht, h, fun q2 => qi ?_, fun q2 => qi ?_⟩⟩
  · rwa [bP_f (fun z => (w.mpr z).1 q)] at k
  · rwa [bP_f (fun z => (w.mpr z).2 q2)] at k
  · rwa [bP_t (w.mp ⟨q, q2⟩)] at k
abbrev gw_X3_opens (d : Nat) (Q : zQt) (pc : Nat) (lv : zV) (st : List Value) (I : zI) (L : zL) (P : zP) : Prop := zW zm_X3_opens (zRm d 0 0) 0 0 Q pc lv st I L P 205 0 0
abbrev v_X3_opens (d : Nat) (Q : zQt) (p1 : Int32) (I : zI) (L : zL) (P : zP) : Prop :=
  ((p1 = 270 →
    Q (some (.int 1)) I L P 205
  ) ∧ (¬ p1 = 270 →
    ((p1 = 271 →
      Q (some (.int 1)) I L P 205
    ) ∧ (¬ p1 = 271 →
      ((p1 = 272 →
        Q (some (.int 1)) I L P 205
      ) ∧ (¬ p1 = 272 →
        ((¬ p1 = 40 →
          Q (some (.int 0)) I L P 205
        ) ∧ (p1 = 40 →
          Q (some (.int 1)) I L P 205
        ))
      ))
    ))
  ))
set_option maxRecDepth 20000 in
theorem g_X3_opens {d : Nat} {Q : zQt} {p1 : Int32} {I : zI} {L : zL} {P : zP} (hP : zPk P) (hv : v_X3_opens d Q p1 I L P) : zM zm_X3_opens d 0 0 [.int p1] I L P 205 Q := by
  unfold v_X3_opens at hv
  refine zM_of (lv0 := [some (.int p1)]) (by decide +kernel) (Nat.le_of_ble_eq_true rfl) rfl ?_
  refine z_iload_n dX3_opens_0 rfl ?_
  refine z_sipush (v := 270) dX3_opens_1 (by decide) ?_
  refine z_icmp_eq (tgt := 27) dX3_opens_4 (by decide) (fun q1 => ?_) (fun q1 => ?_)
  · have hv := hv.1 q1
    refine z_iconst (v := 1) dX3_opens_27 (by decide) ?_
    refine z_goto (tgt := 32) dX3_opens_28 (by decide) ?_
    exact z_ireturn dX3_opens_32 rfl (by decide) (Nat.le_refl _) (Nat.le_refl _) hv
  · have hv := hv.2 q1
    refine z_iload_n dX3_opens_7 rfl ?_
    refine z_sipush (v := 271) dX3_opens_8 (by decide) ?_
    refine z_icmp_eq (tgt := 27) dX3_opens_11 (by decide) (fun q2 => ?_) (fun q2 => ?_)
    · have hv := hv.1 q2
      refine z_iconst (v := 1) dX3_opens_27 (by decide) ?_
      refine z_goto (tgt := 32) dX3_opens_28 (by decide) ?_
      exact z_ireturn dX3_opens_32 rfl (by decide) (Nat.le_refl _) (Nat.le_refl _) hv
    · have hv := hv.2 q2
      refine z_iload_n dX3_opens_14 rfl ?_
      refine z_sipush (v := 272) dX3_opens_15 (by decide) ?_
      refine z_icmp_eq (tgt := 27) dX3_opens_18 (by decide) (fun q3 => ?_) (fun q3 => ?_)
      · have hv := hv.1 q3
        refine z_iconst (v := 1) dX3_opens_27 (by decide) ?_
        refine z_goto (tgt := 32) dX3_opens_28 (by decide) ?_
        exact z_ireturn dX3_opens_32 rfl (by decide) (Nat.le_refl _) (Nat.le_refl _) hv
      · have hv := hv.2 q3
        refine z_iload_n dX3_opens_21 rfl ?_
        refine z_bipush (v := 40) dX3_opens_22 (by decide) ?_
        refine z_icmp_ne (tgt := 31) dX3_opens_24 (by decide) (fun q4 => ?_) (fun q4 => ?_)
        · have hv := hv.1 q4
          refine z_iconst (v := 0) dX3_opens_31 (by decide) ?_
          exact z_ireturn dX3_opens_32 rfl (by decide) (Nat.le_refl _) (Nat.le_refl _) hv
        · have hv := hv.2 q4
          refine z_iconst (v := 1) dX3_opens_27 (by decide) ?_
          refine z_goto (tgt := 32) dX3_opens_28 (by decide) ?_
          exact z_ireturn dX3_opens_32 rfl (by decide) (Nat.le_refl _) (Nat.le_refl _) hv
def kOp (x : Int32) : Prop := x = 270 ∨ x = 271 ∨ x = 272 ∨ x = 40
theorem sp_X3_opens {d : Nat} {I : zI} {L : zL} {P : zP} {x : Int32} (hP : zPk P) {K : Int32 → zI → zL → zP → Prop} (k : K (bP (kOp x)) I L P) : zMi zm_X3_opens d [.int x] I L P K := by
  refine g_X3_opens hP ⟨fun q => qi ?_, fun q => ⟨fun q2 => qi ?_, fun q2 => ⟨fun q3 => qi ?_, fun q3 => ⟨fun q4 => qi ?_, fun q4 => qi ?_⟩⟩⟩⟩
  · rwa [bP_t (show kOp x from Or.inl q)] at k
  · rwa [bP_t (show kOp x from Or.inr (Or.inl q2))] at k
  · rwa [bP_t (show kOp x from Or.inr (Or.inr (Or.inl q3)))] at k
  · rwa [bP_f (by unfold kOp; rintro (z | z | z | z) <;> contradiction)] at k
  · rwa [bP_t (show kOp x from Or.inr (Or.inr (Or.inr q4)))] at k
abbrev gw_X3_isLeaf (d : Nat) (Q : zQt) (pc : Nat) (lv : zV) (st : List Value) (I : zI) (L : zL) (P : zP) : Prop := zW zm_X3_isLeaf (zRm d 0 0) 0 0 Q pc lv st I L P 205 0 0
abbrev v_X3_isLeaf (d : Nat) (Q : zQt) (p1 : Int32) (I : zI) (L : zL) (P : zP) : Prop :=
  ((p1 = 274 →
    Q (some (.int 1)) I L P 205
  ) ∧ (¬ p1 = 274 →
    ((p1 = 268 →
      Q (some (.int 1)) I L P 205
    ) ∧ (¬ p1 = 268 →
      ((p1 = 262 →
        Q (some (.int 1)) I L P 205
      ) ∧ (¬ p1 = 262 →
        ((¬ p1 = 269 →
          Q (some (.int 0)) I L P 205
        ) ∧ (p1 = 269 →
          Q (some (.int 1)) I L P 205
        ))
      ))
    ))
  ))
set_option maxRecDepth 20000 in
theorem g_X3_isLeaf {d : Nat} {Q : zQt} {p1 : Int32} {I : zI} {L : zL} {P : zP} (hP : zPk P) (hv : v_X3_isLeaf d Q p1 I L P) : zM zm_X3_isLeaf d 0 0 [.int p1] I L P 205 Q := by
  unfold v_X3_isLeaf at hv
  refine zM_of (lv0 := [some (.int p1)]) (by decide +kernel) (Nat.le_of_ble_eq_true rfl) rfl ?_
  refine z_iload_n dX3_isLeaf_0 rfl ?_
  refine z_sipush (v := 274) dX3_isLeaf_1 (by decide) ?_
  refine z_icmp_eq (tgt := 28) dX3_isLeaf_4 (by decide) (fun q1 => ?_) (fun q1 => ?_)
  · have hv := hv.1 q1
    refine z_iconst (v := 1) dX3_isLeaf_28 (by decide) ?_
    refine z_goto (tgt := 33) dX3_isLeaf_29 (by decide) ?_
    exact z_ireturn dX3_isLeaf_33 rfl (by decide) (Nat.le_refl _) (Nat.le_refl _) hv
  · have hv := hv.2 q1
    refine z_iload_n dX3_isLeaf_7 rfl ?_
    refine z_sipush (v := 268) dX3_isLeaf_8 (by decide) ?_
    refine z_icmp_eq (tgt := 28) dX3_isLeaf_11 (by decide) (fun q2 => ?_) (fun q2 => ?_)
    · have hv := hv.1 q2
      refine z_iconst (v := 1) dX3_isLeaf_28 (by decide) ?_
      refine z_goto (tgt := 33) dX3_isLeaf_29 (by decide) ?_
      exact z_ireturn dX3_isLeaf_33 rfl (by decide) (Nat.le_refl _) (Nat.le_refl _) hv
    · have hv := hv.2 q2
      refine z_iload_n dX3_isLeaf_14 rfl ?_
      refine z_sipush (v := 262) dX3_isLeaf_15 (by decide) ?_
      refine z_icmp_eq (tgt := 28) dX3_isLeaf_18 (by decide) (fun q3 => ?_) (fun q3 => ?_)
      · have hv := hv.1 q3
        refine z_iconst (v := 1) dX3_isLeaf_28 (by decide) ?_
        refine z_goto (tgt := 33) dX3_isLeaf_29 (by decide) ?_
        exact z_ireturn dX3_isLeaf_33 rfl (by decide) (Nat.le_refl _) (Nat.le_refl _) hv
      · have hv := hv.2 q3
        refine z_iload_n dX3_isLeaf_21 rfl ?_
        refine z_sipush (v := 269) dX3_isLeaf_22 (by decide) ?_
        refine z_icmp_ne (tgt := 32) dX3_isLeaf_25 (by decide) (fun q4 => ?_) (fun q4 => ?_)
        · have hv := hv.1 q4
          refine z_iconst (v := 0) dX3_isLeaf_32 (by decide) ?_
          exact z_ireturn dX3_isLeaf_33 rfl (by decide) (Nat.le_refl _) (Nat.le_refl _) hv
        · have hv := hv.2 q4
          refine z_iconst (v := 1) dX3_isLeaf_28 (by decide) ?_
          refine z_goto (tgt := 33) dX3_isLeaf_29 (by decide) ?_
          exact z_ireturn dX3_isLeaf_33 rfl (by decide) (Nat.le_refl _) (Nat.le_refl _) hv
def kLf (x : Int32) : Prop := x = 274 ∨ x = 268 ∨ x = 262 ∨ x = 269
theorem sp_X3_isLeaf {d : Nat} {I : zI} {L : zL} {P : zP} {x : Int32} (hP : zPk P) {K : Int32 → zI → zL → zP → Prop} (k : K (bP (kLf x)) I L P) : zMi zm_X3_isLeaf d [.int x] I L P K := by
  refine g_X3_isLeaf hP ⟨fun q => qi ?_, fun q => ⟨fun q2 => qi ?_, fun q2 => ⟨fun q3 => qi ?_, fun q3 => ⟨fun q4 => qi ?_, fun q4 => qi ?_⟩⟩⟩⟩
  · rwa [bP_t (show kLf x from Or.inl q)] at k
  · rwa [bP_t (show kLf x from Or.inr (Or.inl q2))] at k
  · rwa [bP_t (show kLf x from Or.inr (Or.inr (Or.inl q3)))] at k
  · rwa [bP_f (by unfold kLf; rintro (z | z | z | z) <;> contradiction)] at k
  · rwa [bP_t (show kLf x from Or.inr (Or.inr (Or.inr q4)))] at k
abbrev gw_X3_startsUnit (d : Nat) (Q : zQt) (pc : Nat) (lv : zV) (st : List Value) (I : zI) (L : zL) (P : zP) : Prop := zW zm_X3_startsUnit (zRm d 0 0) 0 0 Q pc lv st I L P 205 0 0
abbrev v_X3_startsUnit (d : Nat) (Q : zQt) (p1 : Int32) (I : zI) (L : zL) (P : zP) : Prop :=
  ((¬ (bP (kLf p1)) = 0 →
    Q (some (.int 1)) I L P 205
  ) ∧ ((bP (kLf p1)) = 0 →
    (((bP (kOp p1)) = 0 →
      Q (some (.int 0)) I L P 205
    ) ∧ (¬ (bP (kOp p1)) = 0 →
      Q (some (.int 1)) I L P 205
    ))
  ))
set_option maxRecDepth 20000 in
theorem g_X3_startsUnit {d : Nat} {Q : zQt} {p1 : Int32} {I : zI} {L : zL} {P : zP} (hP : zPk P) (hv : v_X3_startsUnit d Q p1 I L P) : zM zm_X3_startsUnit (d + 1) 0 0 [.int p1] I L P 205 Q := by
  unfold v_X3_startsUnit at hv
  refine zM_of (lv0 := [some (.int p1)]) (by decide +kernel) (Nat.le_of_ble_eq_true rfl) rfl ?_
  refine z_iload_n dX3_startsUnit_0 rfl ?_
  refine z_callS (As := [.int p1]) (st := []) dX3_startsUnit_1 zl_X3_11 zs_X3_isLeaf rfl rfl (Nat.le_of_ble_eq_true rfl) ⟨Nat.le_refl _, Nat.le_refl _⟩ ⟨Nat.le_refl _, Nat.le_refl _⟩ (sp_X3_isLeaf hP (K := fun r I' L' P' => bP (kLf p1) = r ∧ I = I' ∧ L = L' ∧ P = P') ⟨rfl, rfl, rfl, rfl⟩) (fun v1 I2 L2 P2 nx1 q2 => ?_)
  obtain ⟨rfl, r1, rfl, rfl, rfl, rfl, rfl⟩ := q2
  refine z_if_ne (tgt := 14) dX3_startsUnit_4 (by decide) (fun q3 => ?_) (fun q3 => ?_)
  · have hv := hv.1 q3
    refine z_iconst (v := 1) dX3_startsUnit_14 (by decide) ?_
    refine z_goto (tgt := 19) dX3_startsUnit_15 (by decide) ?_
    exact z_ireturn dX3_startsUnit_19 rfl (by decide) (Nat.le_refl _) (Nat.le_refl _) hv
  · have hv := hv.2 q3
    refine z_iload_n dX3_startsUnit_7 rfl ?_
    refine z_callS (As := [.int p1]) (st := []) dX3_startsUnit_8 zl_X3_15 zs_X3_opens rfl rfl (Nat.le_of_ble_eq_true rfl) ⟨Nat.le_refl _, Nat.le_refl _⟩ ⟨Nat.le_refl _, Nat.le_refl _⟩ (sp_X3_opens hP (K := fun r I' L' P' => bP (kOp p1) = r ∧ I = I' ∧ L = L' ∧ P = P') ⟨rfl, rfl, rfl, rfl⟩) (fun v1 I2 L2 P2 nx1 q5 => ?_)
    obtain ⟨rfl, r4, rfl, rfl, rfl, rfl, rfl⟩ := q5
    refine z_if_eq (tgt := 18) dX3_startsUnit_11 (by decide) (fun q6 => ?_) (fun q6 => ?_)
    · have hv := hv.1 q6
      refine z_iconst (v := 0) dX3_startsUnit_18 (by decide) ?_
      exact z_ireturn dX3_startsUnit_19 rfl (by decide) (Nat.le_refl _) (Nat.le_refl _) hv
    · have hv := hv.2 q6
      refine z_iconst (v := 1) dX3_startsUnit_14 (by decide) ?_
      refine z_goto (tgt := 19) dX3_startsUnit_15 (by decide) ?_
      exact z_ireturn dX3_startsUnit_19 rfl (by decide) (Nat.le_refl _) (Nat.le_refl _) hv
theorem sp_X3_startsUnit {d : Nat} {I : zI} {L : zL} {P : zP} {x : Int32} (hP : zPk P) (hd : 1 ≤ d) {K : Int32 → zI → zL → zP → Prop} (k : K (bP (kLf x ∨ kOp x)) I L P) : zMi zm_X3_startsUnit d [.int x] I L P K := by
  obtain ⟨d, rfl⟩ : ∃ e, d = e + 1 := ⟨d - 1, by omega⟩
  refine g_X3_startsUnit hP ⟨fun q => qi ?_, fun q => ⟨fun q2 => qi ?_, fun q2 => qi ?_⟩⟩
  · rwa [bP_t (Or.inl (bP_n.mp q))] at k
  · rwa [bP_f (fun z => z.elim (bP_0.mp q) (bP_0.mp q2))] at k
  · rwa [bP_t (Or.inr (bP_n.mp q2))] at k
abbrev gw_X3_rankOf (d : Nat) (Q : zQt) (pc : Nat) (lv : zV) (st : List Value) (I : zI) (L : zL) (P : zP) : Prop := zW zm_X3_rankOf (zRm d 0 0) 0 0 Q pc lv st I L P 205 0 0
abbrev v_X3_rankOf (d : Nat) (Q : zQt) (p1 : Int32) (I : zI) (L : zL) (P : zP) : Prop :=
  (p1 = 42 →
    Q (some (.int 4)) I L P 205
  ) ∧
  (p1 = 43 →
    Q (some (.int 3)) I L P 205
  ) ∧
  (p1 = 45 →
    Q (some (.int 3)) I L P 205
  ) ∧
  (p1 = 47 →
    Q (some (.int 4)) I L P 205
  ) ∧
  (p1 = 60 →
    Q (some (.int 2)) I L P 205
  ) ∧
  (p1 = 61 →
    Q (some (.int 2)) I L P 205
  ) ∧
  (p1 = 62 →
    Q (some (.int 2)) I L P 205
  ) ∧
  (p1 = 265 →
    Q (some (.int 0)) I L P 205
  ) ∧
  (p1 = 266 →
    Q (some (.int 1)) I L P 205
  ) ∧
  (¬ p1 = 42 → ¬ p1 = 43 → ¬ p1 = 45 → ¬ p1 = 47 → ¬ p1 = 60 → ¬ p1 = 61 → ¬ p1 = 62 → ¬ p1 = 265 → ¬ p1 = 266 →
    Q (some (.int (-1))) I L P 205
  )
set_option maxRecDepth 20000 in
theorem g_X3_rankOf {d : Nat} {Q : zQt} {p1 : Int32} {I : zI} {L : zL} {P : zP} (hP : zPk P) (hv : v_X3_rankOf d Q p1 I L P) : zM zm_X3_rankOf d 0 0 [.int p1] I L P 205 Q := by
  unfold v_X3_rankOf at hv
  refine zM_of (lv0 := [some (.int p1)]) (by decide +kernel) (Nat.le_of_ble_eq_true rfl) rfl ?_
  refine z_iload_n dX3_rankOf_0 rfl ?_
  by_cases q1 : p1 = 42
  · have hv := hv.1 q1
    refine z_lookup (off := 91) (tgt := 92) dX3_rankOf_1 (by decide) (by rw [q1]; decide) (by decide) ?_
    refine z_iconst (v := 4) dX3_rankOf_92 (by decide) ?_
    exact z_ireturn dX3_rankOf_93 rfl rfl (Nat.le_refl _) (Nat.le_refl _) hv
  by_cases q2 : p1 = 43
  · have hv := hv.2.1 q2
    refine z_lookup (off := 89) (tgt := 90) dX3_rankOf_1 (by decide) (by rw [q2]; decide) (by decide) ?_
    refine z_iconst (v := 3) dX3_rankOf_90 (by decide) ?_
    exact z_ireturn dX3_rankOf_91 rfl rfl (Nat.le_refl _) (Nat.le_refl _) hv
  by_cases q3 : p1 = 45
  · have hv := hv.2.2.1 q3
    refine z_lookup (off := 89) (tgt := 90) dX3_rankOf_1 (by decide) (by rw [q3]; decide) (by decide) ?_
    refine z_iconst (v := 3) dX3_rankOf_90 (by decide) ?_
    exact z_ireturn dX3_rankOf_91 rfl rfl (Nat.le_refl _) (Nat.le_refl _) hv
  by_cases q4 : p1 = 47
  · have hv := hv.2.2.2.1 q4
    refine z_lookup (off := 91) (tgt := 92) dX3_rankOf_1 (by decide) (by rw [q4]; decide) (by decide) ?_
    refine z_iconst (v := 4) dX3_rankOf_92 (by decide) ?_
    exact z_ireturn dX3_rankOf_93 rfl rfl (Nat.le_refl _) (Nat.le_refl _) hv
  by_cases q5 : p1 = 60
  · have hv := hv.2.2.2.2.1 q5
    refine z_lookup (off := 87) (tgt := 88) dX3_rankOf_1 (by decide) (by rw [q5]; decide) (by decide) ?_
    refine z_iconst (v := 2) dX3_rankOf_88 (by decide) ?_
    exact z_ireturn dX3_rankOf_89 rfl rfl (Nat.le_refl _) (Nat.le_refl _) hv
  by_cases q6 : p1 = 61
  · have hv := hv.2.2.2.2.2.1 q6
    refine z_lookup (off := 87) (tgt := 88) dX3_rankOf_1 (by decide) (by rw [q6]; decide) (by decide) ?_
    refine z_iconst (v := 2) dX3_rankOf_88 (by decide) ?_
    exact z_ireturn dX3_rankOf_89 rfl rfl (Nat.le_refl _) (Nat.le_refl _) hv
  by_cases q7 : p1 = 62
  · have hv := hv.2.2.2.2.2.2.1 q7
    refine z_lookup (off := 87) (tgt := 88) dX3_rankOf_1 (by decide) (by rw [q7]; decide) (by decide) ?_
    refine z_iconst (v := 2) dX3_rankOf_88 (by decide) ?_
    exact z_ireturn dX3_rankOf_89 rfl rfl (Nat.le_refl _) (Nat.le_refl _) hv
  by_cases q8 : p1 = 265
  · have hv := hv.2.2.2.2.2.2.2.1 q8
    refine z_lookup (off := 83) (tgt := 84) dX3_rankOf_1 (by decide) (by rw [q8]; decide) (by decide) ?_
    refine z_iconst (v := 0) dX3_rankOf_84 (by decide) ?_
    exact z_ireturn dX3_rankOf_85 rfl rfl (Nat.le_refl _) (Nat.le_refl _) hv
  by_cases q9 : p1 = 266
  · have hv := hv.2.2.2.2.2.2.2.2.1 q9
    refine z_lookup (off := 85) (tgt := 86) dX3_rankOf_1 (by decide) (by rw [q9]; decide) (by decide) ?_
    refine z_iconst (v := 1) dX3_rankOf_86 (by decide) ?_
    exact z_ireturn dX3_rankOf_87 rfl rfl (Nat.le_refl _) (Nat.le_refl _) hv
  have hv := hv.2.2.2.2.2.2.2.2.2 q1 q2 q3 q4 q5 q6 q7 q8 q9
  refine z_lookup (off := 93) (tgt := 94) dX3_rankOf_1 (by decide) ((lv_osw q1 (by decide)).trans ((lv_osw q2 (by decide)).trans ((lv_osw q3 (by decide)).trans ((lv_osw q4 (by decide)).trans ((lv_osw q5 (by decide)).trans ((lv_osw q6 (by decide)).trans ((lv_osw q7 (by decide)).trans ((lv_osw q8 (by decide)).trans ((lv_osw q9 (by decide)).trans rfl))))))))) (by decide) ?_
  refine z_iconst (v := (-1)) dX3_rankOf_94 (by decide) ?_
  exact z_ireturn dX3_rankOf_95 rfl rfl (Nat.le_refl _) (Nat.le_refl _) hv
def kRk (x : Int32) : Int32 := if x = 42 ∨ x = 47 then 4 else if x = 43 ∨ x = 45 then 3 else if x = 60 ∨ x = 61 ∨ x = 62 then 2 else if x = 265 then 0 else if x = 266 then 1 else -1
theorem sp_X3_rankOf {d : Nat} {I : zI} {L : zL} {P : zP} {x : Int32} (hP : zPk P) {K : Int32 → zI → zL → zP → Prop} (k : K (kRk x) I L P) : zMi zm_X3_rankOf d [.int x] I L P K := by
  refine g_X3_rankOf hP ⟨fun q => qi ?_, fun q => qi ?_, fun q => qi ?_, fun q => qi ?_, fun q => qi ?_, fun q => qi ?_, fun q => qi ?_, fun q => qi ?_, fun q => qi ?_, fun q1 q2 q3 q4 q5 q6 q7 q8 q9 => qi ?_⟩
  any_goals (subst q; exact k)
  unfold kRk at k
  rwa [if_neg (fun z => z.elim q1 q4), if_neg (fun z => z.elim q2 q3), if_neg (by rintro (z | z | z) <;> contradiction), if_neg q8, if_neg q9] at k
/-! codes: a step is a kind and a number -/
def co (c : Nat) : Prop := c = 3 ∨ c = 8 ∨ c = 14
theorem co_k : ∀ c, (c = 3 ∨ c = 8 ∨ c = 14) → (c < 205 ∧ (zsh c).1 = 0) ∧ zst c 0 = some (c + 1) ∧ (c + 1 < 205 ∧ zsh (c + 1) = (100, 600)) := by
  rintro c (rfl | rfl | rfl) <;> decide +kernel
theorem co_P {c : Nat} {P : zP} (h : co c) (hP : zPk P) : (c < 205 ∧ (zsh c).1 = 0) ∧ P c 0 = some (c + 1) ∧ (c + 1 < 205 ∧ zsh (c + 1) = (100, 600)) := by
  obtain ⟨h1, h2, h3⟩ := co_k c h
  exact ⟨h1, hP _ _ _ h2, h3⟩
def enc (x : Nat × Int32) : Int32 := ((nI x.1 <<< (14 &&& 31) : Int32) ||| x.2 : Int32)
theorem enc_nI {k m : Nat} (hk : k < 512) (hm : m < 16384) : enc (k, nI m) = nI (k * 16384 + m) := by
  unfold enc
  have e : (nI k <<< (14 &&& 31) : Int32) = nI (k * 2 ^ 14) := nx_shl (p := k) (k := 14) (by decide) (by omega)
  show (nI k <<< (14 &&& 31) : Int32) ||| nI m = _
  rw [e, nx_or]
  have : k * 2 ^ 14 ||| m = k * 2 ^ 14 + m := by
    rw [Nat.mul_comm, Nat.two_pow_add_eq_or_of_lt (by omega : m < 2 ^ 14)]
  rw [this]
theorem enc_k {k m : Nat} (hk : k < 512) (hm : m < 16384) : (enc (k, nI m) >>> (14 &&& 31) : Int32) = nI k := by
  rw [enc_nI hk hm]
  have e : (nI (k * 16384 + m) >>> (14 &&& 31) : Int32) = nI ((k * 16384 + m) / 2 ^ 14) := nx_shr (k := 14) (by decide) (by omega)
  rw [e]
  exact nIe (by omega)
theorem enc_o {k m : Nat} (hk : k < 512) (hm : m < 16384) : (enc (k, nI m) &&& 16383 : Int32) = nI m := by
  rw [enc_nI hk hm]
  have e : (nI (k * 16384 + m) &&& 16383 : Int32) = nI ((k * 16384 + m) % 2 ^ 14) := nx_mask _ 14
  rw [e]
  exact nIe (by omega)
/-- the code c has these steps from the place b on -/
def cT (c : Nat) (I : zI) (b : Nat) (cs : Cd) : Prop := ∀ i x, cs[i]? = some x → I (c + 1) (b + i) = enc x
abbrev gw_X0_kindAt (d : Nat) (Q : zQt) (pc : Nat) (lv : zV) (st : List Value) (I : zI) (L : zL) (P : zP) : Prop := zW zm_X0_kindAt (zRm d 0 0) 0 0 Q pc lv st I L P 205 0 0
abbrev v_X0_kindAt (d : Nat) (Q : zQt) (a : Nat) (p1 : Int32) (I : zI) (L : zL) (P : zP) : Prop :=
  ((p1 < 0 →
    Q (some (.int (-1))) I L P 205
  ) ∧ (¬ p1 < 0 →
    (a < 205 ∧ (zsh a).1 = 0) ∧
    (((I a 1) ≤ p1 →
      Q (some (.int (-1))) I L P 205
    ) ∧ (¬ (I a 1) ≤ p1 →
      ∃ b4 : Nat, P a 0 = some b4 ∧
      ∃ n7, (b4 < 205 ∧ zsh b4 = (100, n7)) ∧
      vp_in p1 n7 ∧
      Q (some (.int ((I b4 p1.toNatClampNeg) >>> (14 &&& 31) : Int32))) I L P 205
    ))
  ))
set_option maxRecDepth 20000 in
theorem g_X0_kindAt {d : Nat} {Q : zQt} {a : Nat} {p1 : Int32} {I : zI} {L : zL} {P : zP} (hP : zPk P) (hv : v_X0_kindAt d Q a p1 I L P) : zM zm_X0_kindAt d 0 0 [.ref a, .int p1] I L P 205 Q := by
  unfold v_X0_kindAt at hv
  refine zM_of (lv0 := [some (.ref a), some (.int p1)]) (by decide +kernel) (Nat.le_of_ble_eq_true rfl) rfl ?_
  refine z_iload_n dX0_kindAt_0 rfl ?_
  refine z_if_lt (tgt := 24) dX0_kindAt_1 (by decide) (fun q1 => ?_) (fun q1 => ?_)
  · have hv := hv.1 q1
    refine z_iconst (v := (-1)) dX0_kindAt_24 (by decide) ?_
    exact z_ireturn dX0_kindAt_25 rfl rfl (Nat.le_refl _) (Nat.le_refl _) hv
  · have hv := hv.2 q1
    refine z_iload_n dX0_kindAt_4 rfl ?_
    refine z_aload_n dX0_kindAt_5 rfl ?_
    obtain ⟨h2, hv⟩ := hv
    refine z_getI dX0_kindAt_6 zf_X0_15 h2.1 h2.2 (fun _ _ _ _ _ => rfl) ?_
    refine z_icmp_ge (tgt := 24) dX0_kindAt_9 (by decide) (fun q3 => ?_) (fun q3 => ?_)
    · have hv := hv.1 q3
      refine z_iconst (v := (-1)) dX0_kindAt_24 (by decide) ?_
      exact z_ireturn dX0_kindAt_25 rfl rfl (Nat.le_refl _) (Nat.le_refl _) hv
    · have hv := hv.2 q3
      refine z_aload_n dX0_kindAt_12 rfl ?_
      obtain ⟨b4, h5, hv⟩ := hv
      refine z_getP dX0_kindAt_13 zf_X0_11 h2.1 h2.2 (fun _ _ _ _ _ => rfl) h5 ?_
      refine z_iload_n dX0_kindAt_16 rfl ?_
      obtain ⟨n7, h6, hv⟩ := hv
      obtain ⟨h8, hv⟩ := hv
      refine z_iaload dX0_kindAt_17 h6.1 h6.2 h8 ?_
      refine z_bipush (v := 14) dX0_kindAt_18 (by decide) ?_
      refine z_ishr dX0_kindAt_20 ?_
      refine z_goto (tgt := 25) dX0_kindAt_21 (by decide) ?_
      exact z_ireturn dX0_kindAt_25 rfl rfl (Nat.le_refl _) (Nat.le_refl _) hv
theorem sp_X0_kindAt {d c n : Nat} {I : zI} {L : zL} {P : zP} {i k m : Nat} (hP : zPk P) (hc : co c) (hn : I c 1 = nI n) (hi : i < n) (h6 : n ≤ 600) (hk : k < 512) (hm : m < 16384) (he : I (c + 1) i = enc (k, nI m)) {K : Int32 → zI → zL → zP → Prop} (kk : K (nI k) I L P) : zMi zm_X0_kindAt d [.ref c, .int (nI i)] I L P K := by
  obtain ⟨p1, p2, p3⟩ := co_P hc hP
  refine g_X0_kindAt hP ⟨fun q => absurd q (nI_pos (by omega)), fun _ => ⟨p1, fun q => absurd q (by rw [hn]; exact nI_ge hi (by omega)), fun _ => ⟨c + 1, p2, 600, p3, nx_in (by omega) (by decide), qi ?_⟩⟩⟩
  rw [nI_cl (by omega), he, enc_k hk hm]
  exact kk
abbrev gw_X0_ofAt (d : Nat) (Q : zQt) (pc : Nat) (lv : zV) (st : List Value) (I : zI) (L : zL) (P : zP) : Prop := zW zm_X0_ofAt (zRm d 0 0) 0 0 Q pc lv st I L P 205 0 0
abbrev v_X0_ofAt (d : Nat) (Q : zQt) (a : Nat) (p1 : Int32) (I : zI) (L : zL) (P : zP) : Prop :=
  ((p1 < 0 →
    Q (some (.int (-1))) I L P 205
  ) ∧ (¬ p1 < 0 →
    (a < 205 ∧ (zsh a).1 = 0) ∧
    (((I a 1) ≤ p1 →
      Q (some (.int (-1))) I L P 205
    ) ∧ (¬ (I a 1) ≤ p1 →
      ∃ b4 : Nat, P a 0 = some b4 ∧
      ∃ n7, (b4 < 205 ∧ zsh b4 = (100, n7)) ∧
      vp_in p1 n7 ∧
      Q (some (.int ((I b4 p1.toNatClampNeg) &&& 16383 : Int32))) I L P 205
    ))
  ))
set_option maxRecDepth 20000 in
theorem g_X0_ofAt {d : Nat} {Q : zQt} {a : Nat} {p1 : Int32} {I : zI} {L : zL} {P : zP} (hP : zPk P) (hv : v_X0_ofAt d Q a p1 I L P) : zM zm_X0_ofAt d 0 0 [.ref a, .int p1] I L P 205 Q := by
  unfold v_X0_ofAt at hv
  refine zM_of (lv0 := [some (.ref a), some (.int p1)]) (by decide +kernel) (Nat.le_of_ble_eq_true rfl) rfl ?_
  refine z_iload_n dX0_ofAt_0 rfl ?_
  refine z_if_lt (tgt := 25) dX0_ofAt_1 (by decide) (fun q1 => ?_) (fun q1 => ?_)
  · have hv := hv.1 q1
    refine z_iconst (v := (-1)) dX0_ofAt_25 (by decide) ?_
    exact z_ireturn dX0_ofAt_26 rfl rfl (Nat.le_refl _) (Nat.le_refl _) hv
  · have hv := hv.2 q1
    refine z_iload_n dX0_ofAt_4 rfl ?_
    refine z_aload_n dX0_ofAt_5 rfl ?_
    obtain ⟨h2, hv⟩ := hv
    refine z_getI dX0_ofAt_6 zf_X0_15 h2.1 h2.2 (fun _ _ _ _ _ => rfl) ?_
    refine z_icmp_ge (tgt := 25) dX0_ofAt_9 (by decide) (fun q3 => ?_) (fun q3 => ?_)
    · have hv := hv.1 q3
      refine z_iconst (v := (-1)) dX0_ofAt_25 (by decide) ?_
      exact z_ireturn dX0_ofAt_26 rfl rfl (Nat.le_refl _) (Nat.le_refl _) hv
    · have hv := hv.2 q3
      refine z_aload_n dX0_ofAt_12 rfl ?_
      obtain ⟨b4, h5, hv⟩ := hv
      refine z_getP dX0_ofAt_13 zf_X0_11 h2.1 h2.2 (fun _ _ _ _ _ => rfl) h5 ?_
      refine z_iload_n dX0_ofAt_16 rfl ?_
      obtain ⟨n7, h6, hv⟩ := hv
      obtain ⟨h8, hv⟩ := hv
      refine z_iaload dX0_ofAt_17 h6.1 h6.2 h8 ?_
      refine z_sipush (v := 16383) dX0_ofAt_18 (by decide) ?_
      refine z_iand dX0_ofAt_21 ?_
      refine z_goto (tgt := 26) dX0_ofAt_22 (by decide) ?_
      exact z_ireturn dX0_ofAt_26 rfl rfl (Nat.le_refl _) (Nat.le_refl _) hv
theorem sp_X0_ofAt {d c n : Nat} {I : zI} {L : zL} {P : zP} {i k m : Nat} (hP : zPk P) (hc : co c) (hn : I c 1 = nI n) (hi : i < n) (h6 : n ≤ 600) (hk : k < 512) (hm : m < 16384) (he : I (c + 1) i = enc (k, nI m)) {K : Int32 → zI → zL → zP → Prop} (kk : K (nI m) I L P) : zMi zm_X0_ofAt d [.ref c, .int (nI i)] I L P K := by
  obtain ⟨p1, p2, p3⟩ := co_P hc hP
  refine g_X0_ofAt hP ⟨fun q => absurd q (nI_pos (by omega)), fun _ => ⟨p1, fun q => absurd q (by rw [hn]; exact nI_ge hi (by omega)), fun _ => ⟨c + 1, p2, 600, p3, nx_in (by omega) (by decide), qi ?_⟩⟩⟩
  rw [nI_cl (by omega), he, enc_o hk hm]
  exact kk
abbrev gw_X0_add (d : Nat) (Q : zQt) (pc : Nat) (lv : zV) (st : List Value) (I : zI) (L : zL) (P : zP) : Prop := zW zm_X0_add (zRm d 0 0) 0 0 Q pc lv st I L P 205 0 0
abbrev v_X0_add (d : Nat) (Q : zQt) (a : Nat) (p1 : Int32) (p2 : Int32) (I : zI) (L : zL) (P : zP) : Prop :=
  (a < 205 ∧ (zsh a).1 = 0) ∧
  ((600 ≤ (I a 1) →
    Q none I L P 205
  ) ∧ (¬ 600 ≤ (I a 1) →
    ∃ b3 : Nat, P a 0 = some b3 ∧
    ∃ n6, (b3 < 205 ∧ zsh b3 = (100, n6)) ∧
    vp_in (I a 1) n6 ∧
    ∀ I9 : zI, I9 = zuI I b3 (I a 1).toNatClampNeg ((p1 <<< (14 &&& 31) : Int32) ||| p2 : Int32) →
    ∀ I10 : zI, I10 = zuI I9 a 1 ((I9 a 1) + 1) →
    Q none I10 L P 205
  ))
set_option maxRecDepth 20000 in
theorem g_X0_add {d : Nat} {Q : zQt} {a : Nat} {p1 : Int32} {p2 : Int32} {I : zI} {L : zL} {P : zP} (hP : zPk P) (hv : v_X0_add d Q a p1 p2 I L P) : zM zm_X0_add d 0 0 [.ref a, .int p1, .int p2] I L P 205 Q := by
  unfold v_X0_add at hv
  refine zM_of (lv0 := [some (.ref a), some (.int p1), some (.int p2)]) (by decide +kernel) (Nat.le_of_ble_eq_true rfl) rfl ?_
  refine z_aload_n dX0_add_0 rfl ?_
  obtain ⟨h1, hv⟩ := hv
  refine z_getI dX0_add_1 zf_X0_15 h1.1 h1.2 (fun _ _ _ _ _ => rfl) ?_
  refine z_sipush (v := 600) dX0_add_4 (by decide) ?_
  refine z_icmp_ge (tgt := 35) dX0_add_7 (by decide) (fun q2 => ?_) (fun q2 => ?_)
  · have hv := hv.1 q2
    exact z_return dX0_add_35 rfl (Nat.le_refl _) (Nat.le_refl _) hv
  · have hv := hv.2 q2
    refine z_aload_n dX0_add_10 rfl ?_
    obtain ⟨b3, h4, hv⟩ := hv
    refine z_getP dX0_add_11 zf_X0_11 h1.1 h1.2 (fun _ _ _ _ _ => rfl) h4 ?_
    refine z_aload_n dX0_add_14 rfl ?_
    refine z_getI dX0_add_15 zf_X0_15 h1.1 h1.2 (fun _ _ _ _ _ => rfl) ?_
    refine z_iload_n dX0_add_18 rfl ?_
    refine z_bipush (v := 14) dX0_add_19 (by decide) ?_
    refine z_ishl dX0_add_21 ?_
    refine z_iload_n dX0_add_22 rfl ?_
    refine z_ior dX0_add_23 ?_
    obtain ⟨n6, h5, hv⟩ := hv
    obtain ⟨h7, hv⟩ := hv
    refine z_iastore dX0_add_24 h5.1 h5.2 h7 (z_nmI (fun I9 e8 => ?_))
    have hv := hv I9 e8
    refine z_aload_n dX0_add_25 rfl ?_
    refine z_dup dX0_add_26 rfl ?_
    refine z_getI dX0_add_27 zf_X0_15 h1.1 h1.2 (fun _ _ _ _ _ => rfl) ?_
    refine z_iconst (v := 1) dX0_add_30 (by decide) ?_
    refine z_iadd dX0_add_31 ?_
    refine z_putI dX0_add_32 zf_X0_15 h1.1 h1.2 (Or.inl rfl) (fun _ _ _ _ _ => rfl) rfl rfl (z_nmI (fun I10 e11 => ?_))
    have hv := hv I10 e11
    exact z_return dX0_add_35 rfl (Nat.le_refl _) (Nat.le_refl _) hv
theorem sp_X0_add {d c n : Nat} {I : zI} {L : zL} {P : zP} {k : Nat} {v : Int32} (hP : zPk P) (hc : co c) (hn : I c 1 = nI n) (h6 : n < 600) {K : zI → zL → zP → Prop} (kk : K (zuI (zuI I (c + 1) n (enc (k, v))) c 1 (nI (n + 1))) L P) : zMv zm_X0_add d [.ref c, .int (nI k), .int v] I L P K := by
  obtain ⟨p1, p2, p3⟩ := co_P hc hP
  refine g_X0_add hP ⟨p1, fun q => absurd q ?_, fun _ => ⟨c + 1, p2, 600, p3, by rw [hn]; exact nx_in h6 (by decide), fun I1 e1 I2 e2 => qv ?_⟩⟩
  · rw [hn, show (600 : Int32) = nI 600 from rfl]; exact nI_ge h6 (by decide)
  · rw [hn, nI_cl (by omega)] at e1
    subst e1
    rw [zuI_ne (by omega), hn, nI_1] at e2
    subst e2
    exact kk
/-- whatever is added, the code keeps its size small -/
theorem sp_X0_addF {d c n : Nat} {I : zI} {L : zL} {P : zP} {k v : Int32} (hP : zPk P) (hc : co c) (hn : I c 1 = nI n) (h6 : n ≤ 600) {K : zI → zL → zP → Prop} (kk : ∀ I', cFr [c, c + 1] I I' → (∃ m, m ≤ 600 ∧ I' c 1 = nI m) → K I' L P) : zMv zm_X0_add d [.ref c, .int k, .int v] I L P K := by
  obtain ⟨p1, p2, p3⟩ := co_P hc hP
  refine g_X0_add hP ⟨p1, fun q => qv (kk I (cFr_rf _ _) ⟨n, h6, hn⟩), fun q => ?_⟩
  have h6' : n < 600 := by
    rw [hn, show (600 : Int32) = nI 600 from rfl, nI_leI (by decide) (by omega)] at q
    omega
  refine ⟨c + 1, p2, 600, p3, by rw [hn]; exact nx_in h6' (by decide), fun I1 e1 I2 e2 => qv ?_⟩
  subst e1
  rw [zuI_ne (by omega), hn, nI_1] at e2
  subst e2
  exact kk _ (cFr_c (cFr_c (cFr_rf _ _) (by simp)) (by simp)) ⟨n + 1, by omega, zuI_v _ _ _ _⟩
