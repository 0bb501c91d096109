/-! ===== the class: scenes ===== -/
abbrev gw_X6_countSo (d : Nat) (Q : zQt) (pc : Nat) (lv : zV) (st : List Value) (I : zI) (L : zL) (P : zP) : Prop := zW zm_X6_countSo (zRm d 0 0) 0 0 Q pc lv st I L P 205 0 0
abbrev v_X6_countSo_4 (d : Nat) (Q : zQt) (a : Nat) (p1 : Nat) (x2 : Int32) (x3 : Int32) (I : zI) (L : zL) (P : zP) : Prop :=
  (a < 205 ∧ (zsh a).1 = 5) ∧
  (((I a 3) ≤ x3 →
    Q (some (.int x2)) I L P 205
  ) ∧ (¬ (I a 3) ≤ x3 →
    ∃ b3 : Nat, P a 2 = some b3 ∧
    ∃ n6, (b3 < 205 ∧ zsh b3 = (100, n6)) ∧
    vp_in x3 n6 ∧
    ∃ n9, (p1 < 205 ∧ zsh p1 = (100, n9)) ∧
    vp_in (I b3 x3.toNatClampNeg) n9 ∧
    (((I p1 (I b3 x3.toNatClampNeg).toNatClampNeg) = 0 →
      gw_X6_countSo d Q 4 [some (.ref a), some (.ref p1), some (.int (x2 + 0)), some (.int (x3 + 1))] [] I L P
    ) ∧ (¬ (I p1 (I b3 x3.toNatClampNeg).toNatClampNeg) = 0 →
      gw_X6_countSo d Q 4 [some (.ref a), some (.ref p1), some (.int (x2 + 1)), some (.int (x3 + 1))] [] I L P
    ))
  ))
set_option maxRecDepth 20000 in
theorem g_X6_countSo_4 {d : Nat} {Q : zQt} {a : Nat} {p1 : Nat} {x2 : Int32} {x3 : Int32} {I : zI} {L : zL} {P : zP} (hP : zPk P) (hv : v_X6_countSo_4 d Q a p1 x2 x3 I L P) : gw_X6_countSo d Q 4 [some (.ref a), some (.ref p1), some (.int x2), some (.int x3)] [] I L P := by
  unfold v_X6_countSo_4 at hv
  refine z_iload_n dX6_countSo_4 rfl ?_
  refine z_aload_n dX6_countSo_5 rfl ?_
  obtain ⟨h1, hv⟩ := hv
  refine z_getI dX6_countSo_6 zf_X6_17 h1.1 h1.2 (fun _ _ _ _ _ => rfl) ?_
  refine z_icmp_ge (tgt := 37) dX6_countSo_9 (by decide) (fun q2 => ?_) (fun q2 => ?_)
  · have hv := hv.1 q2
    refine z_iload_n dX6_countSo_37 rfl ?_
    exact z_ireturn dX6_countSo_38 rfl rfl (Nat.le_refl _) (Nat.le_refl _) hv
  · have hv := hv.2 q2
    refine z_iload_n dX6_countSo_12 rfl ?_
    refine z_aload_n dX6_countSo_13 rfl ?_
    refine z_aload_n dX6_countSo_14 rfl ?_
    obtain ⟨b3, h4, hv⟩ := hv
    refine z_getP dX6_countSo_15 zf_X6_11 h1.1 h1.2 (fun _ _ _ _ _ => rfl) h4 ?_
    refine z_iload_n dX6_countSo_18 rfl ?_
    obtain ⟨n6, h5, hv⟩ := hv
    obtain ⟨h7, hv⟩ := hv
    refine z_iaload dX6_countSo_19 h5.1 h5.2 h7 ?_
    obtain ⟨n9, h8, hv⟩ := hv
    obtain ⟨h10, hv⟩ := hv
    refine z_iaload dX6_countSo_20 h8.1 h8.2 h10 ?_
    refine z_if_eq (tgt := 28) dX6_countSo_21 (by decide) (fun q11 => ?_) (fun q11 => ?_)
    · have hv := hv.1 q11
      refine z_iconst (v := 0) dX6_countSo_28 (by decide) ?_
      refine z_iadd dX6_countSo_29 ?_
      refine z_istore_n (lv2 := [some (.ref a), some (.ref p1), some (.int (x2 + 0)), some (.int x3)]) dX6_countSo_30 (by decide) rfl rfl ?_
      refine z_iinc (v2 := x3 + 1) (lv2 := [some (.ref a), some (.ref p1), some (.int (x2 + 0)), some (.int (x3 + 1))]) dX6_countSo_31 rfl (by rfl) (by decide) rfl rfl ?_
      refine z_goto (tgt := 4) dX6_countSo_34 (by decide) ?_
      exact hv
    · have hv := hv.2 q11
      refine z_iconst (v := 1) dX6_countSo_24 (by decide) ?_
      refine z_goto (tgt := 29) dX6_countSo_25 (by decide) ?_
      refine z_iadd dX6_countSo_29 ?_
      refine z_istore_n (lv2 := [some (.ref a), some (.ref p1), some (.int (x2 + 1)), some (.int x3)]) dX6_countSo_30 (by decide) rfl rfl ?_
      refine z_iinc (v2 := x3 + 1) (lv2 := [some (.ref a), some (.ref p1), some (.int (x2 + 1)), some (.int (x3 + 1))]) dX6_countSo_31 rfl (by rfl) (by decide) rfl rfl ?_
      refine z_goto (tgt := 4) dX6_countSo_34 (by decide) ?_
      exact hv
abbrev v_X6_countSo (d : Nat) (Q : zQt) (a : Nat) (p1 : Nat) (I : zI) (L : zL) (P : zP) : Prop :=
  gw_X6_countSo d Q 4 [some (.ref a), some (.ref p1), some (.int 0), some (.int 0)] [] I L P
set_option maxRecDepth 20000 in
theorem g_X6_countSo {d : Nat} {Q : zQt} {a : Nat} {p1 : Nat} {I : zI} {L : zL} {P : zP} (hP : zPk P) (hv : v_X6_countSo d Q a p1 I L P) : zM zm_X6_countSo d 0 0 [.ref a, .ref p1] I L P 205 Q := by
  unfold v_X6_countSo at hv
  refine zM_of (lv0 := [some (.ref a), some (.ref p1), none, none]) (by decide +kernel) (Nat.le_of_ble_eq_true rfl) rfl ?_
  refine z_iconst (v := 0) dX6_countSo_0 (by decide) ?_
  refine z_istore_n (lv2 := [some (.ref a), some (.ref p1), some (.int 0), none]) dX6_countSo_1 (by decide) rfl rfl ?_
  refine z_iconst (v := 0) dX6_countSo_2 (by decide) ?_
  refine z_istore_n (lv2 := [some (.ref a), some (.ref p1), some (.int 0), some (.int 0)]) dX6_countSo_3 (by decide) rfl rfl ?_
  exact hv
noncomputable def cN (f : Nat → Prop) : List Nat → Nat
  | [] => 0
  | x :: t => (@ite _ (f x) (Classical.propDecidable _) 1 0) + cN f t
theorem cN_app (f : Nat → Prop) : ∀ a b, cN f (a ++ b) = cN f a + cN f b
  | [], b => by simp [cN]
  | x :: a, b => by simp only [List.cons_append, cN]; rw [cN_app f a b]; omega
theorem cN_le (f : Nat → Prop) : ∀ a, cN f a ≤ a.length
  | [] => Nat.le_refl _
  | x :: a => by
    have := cN_le f a
    unfold cN
    by_cases h : f x
    · rw [if_pos h, List.length_cons]; omega
    · rw [if_neg h, List.length_cons]; omega
theorem cN_1 {f : Nat → Prop} {x : Nat} (zs : List Nat) (h : f x) : cN f (zs ++ [x]) = cN f zs + 1 := by
  rw [cN_app]; unfold cN; rw [if_pos h]; rfl
theorem cN_0 {f : Nat → Prop} {x : Nat} (zs : List Nat) (h : ¬ f x) : cN f (zs ++ [x]) = cN f zs := by
  rw [cN_app]; unfold cN; rw [if_neg h]; rfl
theorem lp_X6_countSo {d : Nat} {Q : zQt} {I : zI} {L : zL} {P : zP} {s l v r : Nat} {xs : List Nat} (hP : zPk P) (hsc : sc s l v) (hr : 25 ≤ r ∧ r ≤ 68) (hS : cS s l I xs) (kk : Q (some (.int (nI (cN (fun w => ¬ I r w = 0) xs)))) I L P 205) :
    ∀ ys zs, xs = zs ++ ys → gw_X6_countSo d Q 4 [some (.ref s), some (.ref r), some (.int (nI (cN (fun w => ¬ I r w = 0) zs))), some (.int (nI zs.length))] [] I L P := by
  obtain ⟨p1, p2, p3, p4⟩ := sc_P hsc hP
  intro ys
  induction ys with
  | nil =>
    intro zs e
    rw [List.append_nil] at e
    subst e
    exact g_X6_countSo_4 hP ⟨p1, fun _ => kk, fun q => absurd (cS_end hS) q⟩
  | cons x ys ih =>
    intro zs e
    obtain ⟨a1, a2, a3, a4, a5, a6, a7, a8, a9⟩ := cS_on hS e
    have nx := ih (zs ++ [x]) (by rw [e, List.append_assoc]; rfl)
    refine g_X6_countSo_4 hP ⟨p1, fun q => absurd q a1, fun _ => ⟨l, p2, 256, p3, a2, 256, rw_s hr, by rw [a3]; exact a6, fun q => ?_, fun q => ?_⟩⟩
    · rw [a3, a5] at q
      rw [a8]
      rw [cN_0 (f := fun w => ¬ I r w = 0) zs (fun z => z q)] at nx
      rw [show nI (cN (fun w => ¬ I r w = 0) zs) + 0 = nI (cN (fun w => ¬ I r w = 0) zs) from Int32.add_zero _]
      exact nx
    · rw [a3, a5] at q
      rw [a8]
      rw [cN_1 (f := fun w => ¬ I r w = 0) zs q] at nx
      rw [nI_1]
      exact nx
theorem sp_X6_countSo {d : Nat} {I : zI} {L : zL} {P : zP} {s l v r : Nat} {xs : List Nat} (hP : zPk P) (hsc : sc s l v) (hr : 25 ≤ r ∧ r ≤ 68) (hS : cS s l I xs) {K : Int32 → zI → zL → zP → Prop} (kk : K (nI (cN (fun w => ¬ I r w = 0) xs)) I L P) : zMi zm_X6_countSo d [.ref s, .ref r] I L P K :=
  g_X6_countSo hP (lp_X6_countSo hP hsc hr hS (qi kk) xs [] rfl)
/-- what is kept of a list -/
noncomputable def cK (f : Nat → Prop) : List Nat → List Nat
  | [] => []
  | x :: t => @ite _ (f x) (Classical.propDecidable _) (x :: cK f t) (cK f t)
theorem cK_app (f : Nat → Prop) : ∀ a b, cK f (a ++ b) = cK f a ++ cK f b
  | [], b => rfl
  | x :: a, b => by
    simp only [List.cons_append, cK]
    rw [cK_app f a b]
    by_cases h : f x
    · rw [if_pos h, if_pos h]; rfl
    · rw [if_neg h, if_neg h]
theorem cK_1 {f : Nat → Prop} {x : Nat} (zs : List Nat) (h : f x) : cK f (zs ++ [x]) = cK f zs ++ [x] := by
  rw [cK_app]; unfold cK; rw [if_pos h]; rfl
theorem cK_0 {f : Nat → Prop} {x : Nat} (zs : List Nat) (h : ¬ f x) : cK f (zs ++ [x]) = cK f zs := by
  rw [cK_app]; unfold cK; rw [if_neg h]; unfold cK; rw [List.append_nil]
theorem cK_len (f : Nat → Prop) : ∀ a, (cK f a).length ≤ a.length
  | [] => Nat.le_refl _
  | x :: a => by
    have := cK_len f a
    unfold cK
    by_cases h : f x
    · rw [if_pos h, List.length_cons, List.length_cons]; omega
    · rw [if_neg h, List.length_cons]; omega
theorem cK_mem (f : Nat → Prop) (w : Nat) : ∀ a, w ∈ cK f a ↔ w ∈ a ∧ f w
  | [] => by simp [cK]
  | x :: a => by
    have ih := cK_mem f w a
    unfold cK
    by_cases h : f x
    · rw [if_pos h, List.mem_cons, List.mem_cons, ih]
      constructor
      · rintro (rfl | z)
        · exact ⟨Or.inl rfl, h⟩
        · exact ⟨Or.inr z.1, z.2⟩
      · rintro ⟨rfl | z, y⟩
        · exact Or.inl rfl
        · exact Or.inr ⟨z, y⟩
    · rw [if_neg h, List.mem_cons, ih]
      constructor
      · exact fun z => ⟨Or.inr z.1, z.2⟩
      · rintro ⟨rfl | z, y⟩
        · exact absurd y h
        · exact ⟨z, y⟩
theorem cK_c {f f' : Nat → Prop} : ∀ {xs : List Nat}, (∀ w ∈ xs, (f w ↔ f' w)) → cK f xs = cK f' xs
  | [], _ => rfl
  | x :: a, h => by
    unfold cK
    rw [cK_c (xs := a) (fun w hw => h w (by simp [hw])), propext (h x (by simp))]
theorem cN_K (f : Nat → Prop) : ∀ a, cN f a = (cK f a).length
  | [] => rfl
  | x :: a => by
    unfold cN cK
    rw [cN_K f a]
    by_cases h : f x
    · rw [if_pos h, if_pos h, List.length_cons]; omega
    · rw [if_neg h, if_neg h]; omega
/-- a list while it is sieved: its kept head, and its tail as it was -/
def cV (l : Nat) (I : zI) (ks : List Nat) (n : Nat) (ys : List Nat) : Prop := cL l I ks ∧ ∀ i w, ys[i]? = some w → I l (n + i) = nI w
theorem cV_0 {l : Nat} {I : zI} {zs ys : List Nat} {ks : List Nat} {x : Nat} (h : cV l I ks zs.length (x :: ys)) : cV l I ks (zs ++ [x]).length ys :=
  ⟨h.1, fun i w hw => by rw [List.length_append, List.length_singleton, Nat.add_assoc, Nat.add_comm 1 i]; exact h.2 (i + 1) w (by simpa using hw)⟩
theorem cV_1 {l : Nat} {I : zI} {zs ys ks : List Nat} {x : Nat} (hk : ks.length ≤ zs.length) (h : cV l I ks zs.length (x :: ys)) : cV l (zuI I l ks.length (nI x)) (ks ++ [x]) (zs ++ [x]).length ys := by
  refine ⟨fun i w hw => ?_, fun i w hw => ?_⟩
  · by_cases e : i < ks.length
    · rw [zuI_o (by omega)]
      rw [List.getElem?_append_left e] at hw
      exact h.1 i w hw
    · have e2 : i = ks.length := by
        have := (List.getElem?_eq_some_iff.mp hw).1
        rw [List.length_append, List.length_singleton] at this
        omega
      subst e2
      rw [zuI_v]
      rw [List.getElem?_append_right (Nat.le_refl _), Nat.sub_self] at hw
      simp at hw
      rw [hw]
  · have := (cV_0 h).2 i w hw
    rw [zuI_o (by rw [List.length_append, List.length_singleton]; omega)]
    exact this
theorem cV_at {l : Nat} {I : zI} {ks ys : List Nat} {n x : Nat} (h : cV l I ks n (x :: ys)) : I l n = nI x := h.2 0 x rfl
theorem cV_st {l : Nat} {I : zI} {xs : List Nat} (h : cL l I xs) : cV l I [] ([] : List Nat).length xs := ⟨fun i w hw => by simp at hw, fun i w hw => by rw [List.length_nil, Nat.zero_add]; exact h i w hw⟩
abbrev gw_X6_keepSo (d : Nat) (Q : zQt) (pc : Nat) (lv : zV) (st : List Value) (I : zI) (L : zL) (P : zP) : Prop := zW zm_X6_keepSo (zRm d 0 0) 0 0 Q pc lv st I L P 205 0 0
abbrev v_X6_keepSo_4 (d : Nat) (Q : zQt) (a : Nat) (p1 : Nat) (x2 : Int32) (x3 : Int32) (I : zI) (L : zL) (P : zP) : Prop :=
  (a < 205 ∧ (zsh a).1 = 5) ∧
  (((I a 3) ≤ x3 →
    ∀ I3 : zI, I3 = zuI I a 3 x2 →
    Q (some (.int ((I a 3) - x2))) I3 L P 205
  ) ∧ (¬ (I a 3) ≤ x3 →
    ∃ b5 : Nat, P a 2 = some b5 ∧
    ∃ n8, (b5 < 205 ∧ zsh b5 = (100, n8)) ∧
    vp_in x3 n8 ∧
    ∃ n11, (p1 < 205 ∧ zsh p1 = (100, n11)) ∧
    vp_in (I b5 x3.toNatClampNeg) n11 ∧
    (((I p1 (I b5 x3.toNatClampNeg).toNatClampNeg) = 0 →
      gw_X6_keepSo d Q 4 [some (.ref a), some (.ref p1), some (.int x2), some (.int (x3 + 1))] [] I L P
    ) ∧ (¬ (I p1 (I b5 x3.toNatClampNeg).toNatClampNeg) = 0 →
      vp_in x2 n8 ∧
      ∀ I16 : zI, I16 = zuI I b5 x2.toNatClampNeg (I b5 x3.toNatClampNeg) →
      gw_X6_keepSo d Q 4 [some (.ref a), some (.ref p1), some (.int (x2 + 1)), some (.int (x3 + 1))] [] I16 L P
    ))
  ))
set_option maxRecDepth 20000 in
theorem g_X6_keepSo_4 {d : Nat} {Q : zQt} {a : Nat} {p1 : Nat} {x2 : Int32} {x3 : Int32} {I : zI} {L : zL} {P : zP} (hP : zPk P) (hv : v_X6_keepSo_4 d Q a p1 x2 x3 I L P) : gw_X6_keepSo d Q 4 [some (.ref a), some (.ref p1), some (.int x2), some (.int x3)] [] I L P := by
  unfold v_X6_keepSo_4 at hv
  refine z_iload_n dX6_keepSo_4 rfl ?_
  refine z_aload_n dX6_keepSo_5 rfl ?_
  obtain ⟨h1, hv⟩ := hv
  refine z_getI dX6_keepSo_6 zf_X6_17 h1.1 h1.2 (fun _ _ _ _ _ => rfl) ?_
  refine z_icmp_ge (tgt := 44) dX6_keepSo_9 (by decide) (fun q2 => ?_) (fun q2 => ?_)
  · have hv := hv.1 q2
    refine z_aload_n dX6_keepSo_44 rfl ?_
    refine z_getI dX6_keepSo_45 zf_X6_17 h1.1 h1.2 (fun _ _ _ _ _ => rfl) ?_
    refine z_iload_n dX6_keepSo_48 rfl ?_
    refine z_isub dX6_keepSo_49 ?_
    refine z_istore_n (lv2 := [some (.ref a), some (.ref p1), some (.int x2), some (.int ((I a 3) - x2))]) dX6_keepSo_50 (by decide) rfl rfl ?_
    refine z_aload_n dX6_keepSo_51 rfl ?_
    refine z_iload_n dX6_keepSo_52 rfl ?_
    refine z_putI dX6_keepSo_53 zf_X6_17 h1.1 h1.2 (Or.inl rfl) (fun _ _ _ _ _ => rfl) rfl rfl (z_nmI (fun I3 e4 => ?_))
    have hv := hv I3 e4
    refine z_iload_n dX6_keepSo_56 rfl ?_
    exact z_ireturn dX6_keepSo_57 rfl rfl (Nat.le_refl _) (Nat.le_refl _) hv
  · have hv := hv.2 q2
    refine z_aload_n dX6_keepSo_12 rfl ?_
    refine z_aload_n dX6_keepSo_13 rfl ?_
    obtain ⟨b5, h6, hv⟩ := hv
    refine z_getP dX6_keepSo_14 zf_X6_11 h1.1 h1.2 (fun _ _ _ _ _ => rfl) h6 ?_
    refine z_iload_n dX6_keepSo_17 rfl ?_
    obtain ⟨n8, h7, hv⟩ := hv
    obtain ⟨h9, hv⟩ := hv
    refine z_iaload dX6_keepSo_18 h7.1 h7.2 h9 ?_
    obtain ⟨n11, h10, hv⟩ := hv
    obtain ⟨h12, hv⟩ := hv
    refine z_iaload dX6_keepSo_19 h10.1 h10.2 h12 ?_
    refine z_if_eq (tgt := 38) dX6_keepSo_20 (by decide) (fun q13 => ?_) (fun q13 => ?_)
    · have hv := hv.1 q13
      refine z_iinc (v2 := x3 + 1) (lv2 := [some (.ref a), some (.ref p1), some (.int x2), some (.int (x3 + 1))]) dX6_keepSo_38 rfl (by rfl) (by decide) rfl rfl ?_
      refine z_goto (tgt := 4) dX6_keepSo_41 (by decide) ?_
      exact hv
    · have hv := hv.2 q13
      refine z_aload_n dX6_keepSo_23 rfl ?_
      refine z_getP dX6_keepSo_24 zf_X6_11 h1.1 h1.2 (fun _ _ _ _ _ => rfl) h6 ?_
      refine z_iload_n dX6_keepSo_27 rfl ?_
      refine z_aload_n dX6_keepSo_28 rfl ?_
      refine z_getP dX6_keepSo_29 zf_X6_11 h1.1 h1.2 (fun _ _ _ _ _ => rfl) h6 ?_
      refine z_iload_n dX6_keepSo_32 rfl ?_
      refine z_iaload dX6_keepSo_33 h7.1 h7.2 h9 ?_
      obtain ⟨h14, hv⟩ := hv
      refine z_iastore dX6_keepSo_34 h7.1 h7.2 h14 (z_nmI (fun I16 e15 => ?_))
      have hv := hv I16 e15
      refine z_iinc (v2 := x2 + 1) (lv2 := [some (.ref a), some (.ref p1), some (.int (x2 + 1)), some (.int x3)]) dX6_keepSo_35 rfl (by rfl) (by decide) rfl rfl ?_
      refine z_iinc (v2 := x3 + 1) (lv2 := [some (.ref a), some (.ref p1), some (.int (x2 + 1)), some (.int (x3 + 1))]) dX6_keepSo_38 rfl (by rfl) (by decide) rfl rfl ?_
      refine z_goto (tgt := 4) dX6_keepSo_41 (by decide) ?_
      exact hv
abbrev v_X6_keepSo (d : Nat) (Q : zQt) (a : Nat) (p1 : Nat) (I : zI) (L : zL) (P : zP) : Prop :=
  gw_X6_keepSo d Q 4 [some (.ref a), some (.ref p1), some (.int 0), some (.int 0)] [] I L P
set_option maxRecDepth 20000 in
theorem g_X6_keepSo {d : Nat} {Q : zQt} {a : Nat} {p1 : Nat} {I : zI} {L : zL} {P : zP} (hP : zPk P) (hv : v_X6_keepSo d Q a p1 I L P) : zM zm_X6_keepSo d 0 0 [.ref a, .ref p1] I L P 205 Q := by
  unfold v_X6_keepSo at hv
  refine zM_of (lv0 := [some (.ref a), some (.ref p1), none, none]) (by decide +kernel) (Nat.le_of_ble_eq_true rfl) rfl ?_
  refine z_iconst (v := 0) dX6_keepSo_0 (by decide) ?_
  refine z_istore_n (lv2 := [some (.ref a), some (.ref p1), some (.int 0), none]) dX6_keepSo_1 (by decide) rfl rfl ?_
  refine z_iconst (v := 0) dX6_keepSo_2 (by decide) ?_
  refine z_istore_n (lv2 := [some (.ref a), some (.ref p1), some (.int 0), some (.int 0)]) dX6_keepSo_3 (by decide) rfl rfl ?_
  exact hv
theorem lp_X6_keepSo {d : Nat} {Q : zQt} {I0 : zI} {L : zL} {P : zP} {s l v r : Nat} {xs : List Nat} (hP : zPk P) (hsc : sc s l v) (hr : 25 ≤ r ∧ r ≤ 68) (hS : cS s l I0 xs)
    (kk : ∀ I, cFr [s, l] I0 I → (∀ k, k ≠ 3 → I s k = I0 s k) → cS s l I (cK (fun w => ¬ I0 r w = 0) xs) → Q (some (.int (nI (xs.length - (cK (fun w => ¬ I0 r w = 0) xs).length)))) I L P 205) :
    ∀ ys zs I, xs = zs ++ ys → cFr [l] I0 I → cV l I (cK (fun w => ¬ I0 r w = 0) zs) zs.length ys → gw_X6_keepSo d Q 4 [some (.ref s), some (.ref r), some (.int (nI (cK (fun w => ¬ I0 r w = 0) zs).length)), some (.int (nI zs.length))] [] I L P := by
  obtain ⟨p1, p2, p3, p4⟩ := sc_P hsc hP
  have hsc2 := hsc
  unfold sc at hsc2
  intro ys
  induction ys with
  | nil =>
    intro zs I e hf hv
    rw [List.append_nil] at e
    subst e
    have e3 : I s 3 = nI xs.length := by rw [hf s (by simp only [List.mem_cons, List.not_mem_nil, or_false]; omega)]; exact hS.1
    have hl := cK_len (fun w => ¬ I0 r w = 0) xs
    have h256 := hS.2.1
    refine g_X6_keepSo_4 hP ⟨p1, fun _ I1 e1 => ?_, fun q => absurd (by rw [e3]; exact nI_le (Nat.le_refl _) (by omega)) q⟩
    subst e1
    rw [e3, pk_sub hl]
    refine kk _ (cFr_c (cFr_wk hf (by simp)) (by simp)) (fun k hk => ?_) ⟨zuI_v _ _ _ _, by omega, fun w hw => hS.2.2.1 w ((cK_mem _ _ _).mp hw).1, fun i w hw => ?_⟩
    · rw [zuI_o hk, hf s (by simp only [List.mem_cons, List.not_mem_nil, or_false]; omega)]
    · rw [zuI_ne (by omega)]; exact hv.1 i w hw
  | cons x ys ih =>
    intro zs I e hf hv
    obtain ⟨a1, a2, a3, a4, a5, a6, a7, a8, a9⟩ := cS_on hS e
    have hl := cK_len (fun w => ¬ I0 r w = 0) zs
    have es : I s 3 = I0 s 3 := by rw [hf s (by simp only [List.mem_cons, List.not_mem_nil, or_false]; omega)]
    have ex : I l (nI zs.length).toNatClampNeg = nI x := by rw [nI_cl (by omega)]; exact cV_at hv
    have er : I r = I0 r := hf r (by simp only [List.mem_cons, List.not_mem_nil, or_false]; omega)
    refine g_X6_keepSo_4 hP ⟨p1, fun q => absurd q (by rw [es]; exact a1), fun _ => ⟨l, p2, 256, p3, a2, 256, rw_s hr, by rw [ex]; exact a6, fun q => ?_, fun q => ⟨nx_in (by omega) (by decide), fun I1 e1 => ?_⟩⟩⟩
    · rw [ex, a5, er] at q
      rw [a8]
      have := ih (zs ++ [x]) I (by rw [e, List.append_assoc]; rfl) hf
      rw [cK_0 (f := fun w => ¬ I0 r w = 0) zs (fun z => z q)] at this
      exact this (cV_0 hv)
    · rw [ex, a5, er] at q
      rw [ex, nI_cl (by omega)] at e1
      subst e1
      rw [a8]
      have := ih (zs ++ [x]) (zuI I l (cK (fun w => ¬ I0 r w = 0) zs).length (nI x)) (by rw [e, List.append_assoc]; rfl) (cFr_c hf (by simp))
      rw [cK_1 (f := fun w => ¬ I0 r w = 0) zs q] at this
      rw [nI_1]
      have hlen : ∀ ks : List Nat, (ks ++ [x]).length = ks.length + 1 := fun ks => by simp
      rw [hlen (cK _ zs)] at this
      exact this (cV_1 hl hv)
theorem sp_X6_keepSo {d : Nat} {I : zI} {L : zL} {P : zP} {s l v r : Nat} {xs : List Nat} (hP : zPk P) (hsc : sc s l v) (hr : 25 ≤ r ∧ r ≤ 68) (hS : cS s l I xs) {K : Int32 → zI → zL → zP → Prop}
    (kk : ∀ I', cFr [s, l] I I' → (∀ k, k ≠ 3 → I' s k = I s k) → cS s l I' (cK (fun w => ¬ I r w = 0) xs) → K (nI (xs.length - (cK (fun w => ¬ I r w = 0) xs).length)) I' L P) : zMi zm_X6_keepSo d [.ref s, .ref r] I L P K :=
  g_X6_keepSo hP (lp_X6_keepSo hP hsc hr hS (fun I' a b c => qi (kk I' a b c)) xs [] I rfl (cFr_rf _ _) (cV_st hS.2.2.2))
abbrev gw_X6_keepEqual (d : Nat) (Q : zQt) (pc : Nat) (lv : zV) (st : List Value) (I : zI) (L : zL) (P : zP) : Prop := zW zm_X6_keepEqual (zRm d 0 0) 0 0 Q pc lv st I L P 205 0 0
abbrev v_X6_keepEqual_5 (d : Nat) (Q : zQt) (a : Nat) (p1 : Nat) (p2 : Int32) (x3 : Int32) (x4 : Int32) (I : zI) (L : zL) (P : zP) : Prop :=
  (a < 205 ∧ (zsh a).1 = 5) ∧
  (((I a 3) ≤ x4 →
    ∀ I3 : zI, I3 = zuI I a 3 x3 →
    Q none I3 L P 205
  ) ∧ (¬ (I a 3) ≤ x4 →
    ∃ b5 : Nat, P a 2 = some b5 ∧
    ∃ n8, (b5 < 205 ∧ zsh b5 = (100, n8)) ∧
    vp_in x4 n8 ∧
    ∃ n11, (p1 < 205 ∧ zsh p1 = (100, n11)) ∧
    vp_in (I b5 x4.toNatClampNeg) n11 ∧
    ((¬ (I p1 (I b5 x4.toNatClampNeg).toNatClampNeg) = p2 →
      gw_X6_keepEqual d Q 5 [some (.ref a), some (.ref p1), some (.int p2), some (.int x3), some (.int (x4 + 1))] [] I L P
    ) ∧ ((I p1 (I b5 x4.toNatClampNeg).toNatClampNeg) = p2 →
      vp_in x3 n8 ∧
      ∀ I16 : zI, I16 = zuI I b5 x3.toNatClampNeg (I b5 x4.toNatClampNeg) →
      gw_X6_keepEqual d Q 5 [some (.ref a), some (.ref p1), some (.int p2), some (.int (x3 + 1)), some (.int (x4 + 1))] [] I16 L P
    ))
  ))
set_option maxRecDepth 20000 in
theorem g_X6_keepEqual_5 {d : Nat} {Q : zQt} {a : Nat} {p1 : Nat} {p2 : Int32} {x3 : Int32} {x4 : Int32} {I : zI} {L : zL} {P : zP} (hP : zPk P) (hv : v_X6_keepEqual_5 d Q a p1 p2 x3 x4 I L P) : gw_X6_keepEqual d Q 5 [some (.ref a), some (.ref p1), some (.int p2), some (.int x3), some (.int x4)] [] I L P := by
  unfold v_X6_keepEqual_5 at hv
  refine z_iload dX6_keepEqual_5 rfl ?_
  refine z_aload_n dX6_keepEqual_7 rfl ?_
  obtain ⟨h1, hv⟩ := hv
  refine z_getI dX6_keepEqual_8 zf_X6_17 h1.1 h1.2 (fun _ _ _ _ _ => rfl) ?_
  refine z_icmp_ge (tgt := 49) dX6_keepEqual_11 (by decide) (fun q2 => ?_) (fun q2 => ?_)
  · have hv := hv.1 q2
    refine z_aload_n dX6_keepEqual_49 rfl ?_
    refine z_iload_n dX6_keepEqual_50 rfl ?_
    refine z_putI dX6_keepEqual_51 zf_X6_17 h1.1 h1.2 (Or.inl rfl) (fun _ _ _ _ _ => rfl) rfl rfl (z_nmI (fun I3 e4 => ?_))
    have hv := hv I3 e4
    exact z_return dX6_keepEqual_54 rfl (Nat.le_refl _) (Nat.le_refl _) hv
  · have hv := hv.2 q2
    refine z_aload_n dX6_keepEqual_14 rfl ?_
    refine z_aload_n dX6_keepEqual_15 rfl ?_
    obtain ⟨b5, h6, hv⟩ := hv
    refine z_getP dX6_keepEqual_16 zf_X6_11 h1.1 h1.2 (fun _ _ _ _ _ => rfl) h6 ?_
    refine z_iload dX6_keepEqual_19 rfl ?_
    obtain ⟨n8, h7, hv⟩ := hv
    obtain ⟨h9, hv⟩ := hv
    refine z_iaload dX6_keepEqual_21 h7.1 h7.2 h9 ?_
    obtain ⟨n11, h10, hv⟩ := hv
    obtain ⟨h12, hv⟩ := hv
    refine z_iaload dX6_keepEqual_22 h10.1 h10.2 h12 ?_
    refine z_iload_n dX6_keepEqual_23 rfl ?_
    refine z_icmp_ne (tgt := 43) dX6_keepEqual_24 (by decide) (fun q13 => ?_) (fun q13 => ?_)
    · have hv := hv.1 q13
      refine z_iinc (v2 := x4 + 1) (lv2 := [some (.ref a), some (.ref p1), some (.int p2), some (.int x3), some (.int (x4 + 1))]) dX6_keepEqual_43 rfl (by rfl) (by decide) rfl rfl ?_
      refine z_goto (tgt := 5) dX6_keepEqual_46 (by decide) ?_
      exact hv
    · have hv := hv.2 q13
      refine z_aload_n dX6_keepEqual_27 rfl ?_
      refine z_getP dX6_keepEqual_28 zf_X6_11 h1.1 h1.2 (fun _ _ _ _ _ => rfl) h6 ?_
      refine z_iload_n dX6_keepEqual_31 rfl ?_
      refine z_aload_n dX6_keepEqual_32 rfl ?_
      refine z_getP dX6_keepEqual_33 zf_X6_11 h1.1 h1.2 (fun _ _ _ _ _ => rfl) h6 ?_
      refine z_iload dX6_keepEqual_36 rfl ?_
      refine z_iaload dX6_keepEqual_38 h7.1 h7.2 h9 ?_
      obtain ⟨h14, hv⟩ := hv
      refine z_iastore dX6_keepEqual_39 h7.1 h7.2 h14 (z_nmI (fun I16 e15 => ?_))
      have hv := hv I16 e15
      refine z_iinc (v2 := x3 + 1) (lv2 := [some (.ref a), some (.ref p1), some (.int p2), some (.int (x3 + 1)), some (.int x4)]) dX6_keepEqual_40 rfl (by rfl) (by decide) rfl rfl ?_
      refine z_iinc (v2 := x4 + 1) (lv2 := [some (.ref a), some (.ref p1), some (.int p2), some (.int (x3 + 1)), some (.int (x4 + 1))]) dX6_keepEqual_43 rfl (by rfl) (by decide) rfl rfl ?_
      refine z_goto (tgt := 5) dX6_keepEqual_46 (by decide) ?_
      exact hv
abbrev v_X6_keepEqual (d : Nat) (Q : zQt) (a : Nat) (p1 : Nat) (p2 : Int32) (I : zI) (L : zL) (P : zP) : Prop :=
  gw_X6_keepEqual d Q 5 [some (.ref a), some (.ref p1), some (.int p2), some (.int 0), some (.int 0)] [] I L P
set_option maxRecDepth 20000 in
theorem g_X6_keepEqual {d : Nat} {Q : zQt} {a : Nat} {p1 : Nat} {p2 : Int32} {I : zI} {L : zL} {P : zP} (hP : zPk P) (hv : v_X6_keepEqual d Q a p1 p2 I L P) : zM zm_X6_keepEqual d 0 0 [.ref a, .ref p1, .int p2] I L P 205 Q := by
  unfold v_X6_keepEqual at hv
  refine zM_of (lv0 := [some (.ref a), some (.ref p1), some (.int p2), none, none]) (by decide +kernel) (Nat.le_of_ble_eq_true rfl) rfl ?_
  refine z_iconst (v := 0) dX6_keepEqual_0 (by decide) ?_
  refine z_istore_n (lv2 := [some (.ref a), some (.ref p1), some (.int p2), some (.int 0), none]) dX6_keepEqual_1 (by decide) rfl rfl ?_
  refine z_iconst (v := 0) dX6_keepEqual_2 (by decide) ?_
  refine z_istore (lv2 := [some (.ref a), some (.ref p1), some (.int p2), some (.int 0), some (.int 0)]) dX6_keepEqual_3 (by decide) rfl rfl ?_
  exact hv
theorem lp_X6_keepEqual {d : Nat} {Q : zQt} {I0 : zI} {L : zL} {P : zP} {s l v : Nat} {g : Int32} {xs : List Nat} (hP : zPk P) (hsc : sc s l v) (hS : cS s l I0 xs)
    (kk : ∀ I, cFr [s, l] I0 I → (∀ k, k ≠ 3 → I s k = I0 s k) → cS s l I (cK (fun w => I0 72 w = g) xs) → Q none I L P 205) :
    ∀ ys zs I, xs = zs ++ ys → cFr [l] I0 I → cV l I (cK (fun w => I0 72 w = g) zs) zs.length ys → gw_X6_keepEqual d Q 5 [some (.ref s), some (.ref 72), some (.int g), some (.int (nI (cK (fun w => I0 72 w = g) zs).length)), some (.int (nI zs.length))] [] I L P := by
  obtain ⟨p1, p2, p3, p4⟩ := sc_P hsc hP
  have hsc2 := hsc
  unfold sc at hsc2
  intro ys
  induction ys with
  | nil =>
    intro zs I e hf hv
    rw [List.append_nil] at e
    subst e
    have e3 : I s 3 = nI xs.length := by rw [hf s (by simp only [List.mem_cons, List.not_mem_nil, or_false]; omega)]; exact hS.1
    have hl := cK_len (fun w => I0 72 w = g) xs
    have h256 := hS.2.1
    refine g_X6_keepEqual_5 hP ⟨p1, fun _ I1 e1 => ?_, fun q => absurd (by rw [e3]; exact nI_le (Nat.le_refl _) (by omega)) q⟩
    subst e1
    refine kk _ (cFr_c (cFr_wk hf (by simp)) (by simp)) (fun k hk => ?_) ⟨zuI_v _ _ _ _, by omega, fun w hw => hS.2.2.1 w ((cK_mem _ _ _).mp hw).1, fun i w hw => ?_⟩
    · rw [zuI_o hk, hf s (by simp only [List.mem_cons, List.not_mem_nil, or_false]; omega)]
    · rw [zuI_ne (by omega)]; exact hv.1 i w hw
  | cons x ys ih =>
    intro zs I e hf hv
    obtain ⟨a1, a2, a3, a4, a5, a6, a7, a8, a9⟩ := cS_on hS e
    have hl := cK_len (fun w => I0 72 w = g) zs
    have es : I s 3 = I0 s 3 := by rw [hf s (by simp only [List.mem_cons, List.not_mem_nil, or_false]; omega)]
    have ex : I l (nI zs.length).toNatClampNeg = nI x := by rw [nI_cl (by omega)]; exact cV_at hv
    have er : I 72 = I0 72 := hf 72 (by simp only [List.mem_cons, List.not_mem_nil, or_false]; omega)
    refine g_X6_keepEqual_5 hP ⟨p1, fun q => absurd q (by rw [es]; exact a1), fun _ => ⟨l, p2, 256, p3, a2, 256, ⟨by decide, rfl⟩, by rw [ex]; exact a6, fun q => ?_, fun q => ⟨nx_in (by omega) (by decide), fun I1 e1 => ?_⟩⟩⟩
    · rw [ex, a5, er] at q
      rw [a8]
      have := ih (zs ++ [x]) I (by rw [e, List.append_assoc]; rfl) hf
      rw [cK_0 (f := fun w => I0 72 w = g) zs q] at this
      exact this (cV_0 hv)
    · rw [ex, a5, er] at q
      rw [ex, nI_cl (by omega)] at e1
      subst e1
      rw [a8]
      have := ih (zs ++ [x]) (zuI I l (cK (fun w => I0 72 w = g) zs).length (nI x)) (by rw [e, List.append_assoc]; rfl) (cFr_c hf (by simp))
      rw [cK_1 (f := fun w => I0 72 w = g) zs q] at this
      rw [nI_1]
      have hlen : ∀ ks : List Nat, (ks ++ [x]).length = ks.length + 1 := fun ks => by simp
      rw [hlen (cK _ zs)] at this
      exact this (cV_1 hl hv)
theorem sp_X6_keepEqual {d : Nat} {I : zI} {L : zL} {P : zP} {s l v : Nat} {g : Int32} {xs : List Nat} (hP : zPk P) (hsc : sc s l v) (hS : cS s l I xs) {K : zI → zL → zP → Prop}
    (kk : ∀ I', cFr [s, l] I I' → (∀ k, k ≠ 3 → I' s k = I s k) → cS s l I' (cK (fun w => I 72 w = g) xs) → K I' L P) : zMv zm_X6_keepEqual d [.ref s, .ref 72, .int g] I L P K :=
  g_X6_keepEqual hP (lp_X6_keepEqual hP hsc hS (fun I' a b c => qv (kk I' a b c)) xs [] I rfl (cFr_rf _ _) (cV_st hS.2.2.2))
