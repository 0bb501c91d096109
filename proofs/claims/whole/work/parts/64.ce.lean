/-! ===== the class: what one knows, in all worlds at once ===== -/
abbrev xo (xs : List Nat) : Nat → Prop := fun w => w ∈ xs
abbrev gk (g : Nat → Nat → Nat) : Nat → Nat → Nat → Prop := fun p a b => g p b = g p a
/-- one's groups, as they stand in the views v -/
def cG (v p : Nat) (I : zI) (xs : List Nat) (g : Nat → Nat) : Prop := ∀ w ∈ xs, g w < 256 ∧ I (v + 2 + p) w = nI (g w)
theorem cG_c {v p : Nat} {I I' : zI} {xs : List Nat} {g : Nat → Nat} (h : cG v p I xs g) (e : I' (v + 2 + p) = I (v + 2 + p)) : cG v p I' xs g := fun w hw => by rw [e]; exact h w hw
theorem sKn_xs {N : Nat} {xs : List Nat} {g : Nat → Nat → Nat} {p w : Nat} {r : Nat → Int32} (hN : ∀ w ∈ xs, w < N) : (∀ u ∈ xs, g p u = g p w → ¬ r u = 0) ↔ sKn N (xo xs) (gk g p) r w :=
  ⟨fun h v _ hv hg => h v hv hg, fun h u hu hg => h u (hN u hu) hu hg⟩
theorem mem_snoc {x y : Nat} {zs : List Nat} : y ∈ zs ++ [x] ↔ y ∈ zs ∨ y = x := by rw [List.mem_append, List.mem_singleton]
abbrev gw_X4_markKnown (d : Nat) (Q : zQt) (pc : Nat) (lv : zV) (st : List Value) (I : zI) (L : zL) (P : zP) : Prop := zW zm_X4_markKnown (zRm d 0 0) 0 0 Q pc lv st I L P 205 0 0
abbrev v_X4_markKnown_36 (d : Nat) (Q : zQt) (p1 : Nat) (p2 : Nat) (p3 : Nat) (x4 : Int32) (I : zI) (L : zL) (P : zP) : Prop :=
  (p1 < 205 ∧ (zsh p1).1 = 5) ∧
  (((I p1 3) ≤ x4 →
    Q none I L P 205
  ) ∧ (¬ (I p1 3) ≤ x4 →
    ∃ b16 : Nat, P p1 2 = some b16 ∧
    ∃ n19, (b16 < 205 ∧ zsh b16 = (100, n19)) ∧
    vp_in x4 n19 ∧
    ∃ n22, (p3 < 205 ∧ zsh p3 = (100, n22)) ∧
    vp_in (I b16 x4.toNatClampNeg) n22 ∧
    ((¬ (I p3 (I b16 x4.toNatClampNeg).toNatClampNeg) = 0 →
      gw_X4_markKnown d Q 36 [some (.ref 23), some (.ref p1), some (.ref p2), some (.ref p3), some (.int (x4 + 1)), none] [] I L P
    ) ∧ ((I p3 (I b16 x4.toNatClampNeg).toNatClampNeg) = 0 →
      ∃ n26, (p2 < 205 ∧ zsh p2 = (100, n26)) ∧
      vp_in (I b16 x4.toNatClampNeg) n26 ∧
      vp_in (I p2 (I b16 x4.toNatClampNeg).toNatClampNeg) 256 ∧
      ∀ I30 : zI, I30 = zuI I 70 (I p2 (I b16 x4.toNatClampNeg).toNatClampNeg).toNatClampNeg 0 →
      gw_X4_markKnown d Q 36 [some (.ref 23), some (.ref p1), some (.ref p2), some (.ref p3), some (.int (x4 + 1)), none] [] I30 L P
    ))
  ))
set_option maxRecDepth 20000 in
theorem g_X4_markKnown_36 {d : Nat} {Q : zQt} {p1 : Nat} {p2 : Nat} {p3 : Nat} {x4 : Int32} {I : zI} {L : zL} {P : zP} (hP : zPk P) (hv : v_X4_markKnown_36 d Q p1 p2 p3 x4 I L P) : gw_X4_markKnown d Q 36 [some (.ref 23), some (.ref p1), some (.ref p2), some (.ref p3), some (.int x4), none] [] I L P := by
  unfold v_X4_markKnown_36 at hv
  refine z_iload dX4_markKnown_36 rfl ?_
  refine z_aload_n dX4_markKnown_38 rfl ?_
  obtain ⟨h14, hv⟩ := hv
  refine z_getI dX4_markKnown_39 zf_X4_95 h14.1 h14.2 (fun _ _ _ _ _ => rfl) ?_
  refine z_icmp_ge (tgt := 77) dX4_markKnown_42 (by decide) (fun q15 => ?_) (fun q15 => ?_)
  · have hv := hv.1 q15
    exact z_return dX4_markKnown_77 rfl (Nat.le_refl _) (Nat.le_refl _) hv
  · have hv := hv.2 q15
    refine z_aload_n dX4_markKnown_45 rfl ?_
    obtain ⟨b16, h17, hv⟩ := hv
    refine z_getP dX4_markKnown_46 zf_X4_98 h14.1 h14.2 (fun _ _ _ _ _ => rfl) h17 ?_
    refine z_iload dX4_markKnown_49 rfl ?_
    obtain ⟨n19, h18, hv⟩ := hv
    obtain ⟨h20, hv⟩ := hv
    refine z_iaload dX4_markKnown_51 h18.1 h18.2 h20 ?_
    refine z_istore (lv2 := [some (.ref 23), some (.ref p1), some (.ref p2), some (.ref p3), some (.int x4), some (.int (I b16 x4.toNatClampNeg))]) dX4_markKnown_52 (by decide) rfl rfl ?_
    refine z_aload_n dX4_markKnown_54 rfl ?_
    refine z_iload dX4_markKnown_55 rfl ?_
    obtain ⟨n22, h21, hv⟩ := hv
    obtain ⟨h23, hv⟩ := hv
    refine z_iaload dX4_markKnown_57 h21.1 h21.2 h23 ?_
    refine z_if_ne (tgt := 71) dX4_markKnown_58 (by decide) (fun q24 => ?_) (fun q24 => ?_)
    · have hv := hv.1 q24
      refine z_iinc (v2 := x4 + 1) (lv2 := [some (.ref 23), some (.ref p1), some (.ref p2), some (.ref p3), some (.int (x4 + 1)), some (.int (I b16 x4.toNatClampNeg))]) dX4_markKnown_71 rfl (by rfl) (by decide) rfl rfl ?_
      refine z_goto (tgt := 36) dX4_markKnown_74 (by decide) ?_
      exact z_sub (by exact ⟨rfl, ⟨rfl, ⟨rfl, ⟨rfl, ⟨rfl, trivial⟩⟩⟩⟩⟩) hv
    · have hv := hv.2 q24
      refine z_aload_n dX4_markKnown_61 rfl ?_
      refine z_getP dX4_markKnown_62 zf_X4_22 zn_23 zo_23 (fun _ _ _ _ _ => rfl) (hP 23 2 70 zp_23_2) ?_
      refine z_aload_n dX4_markKnown_65 rfl ?_
      refine z_iload dX4_markKnown_66 rfl ?_
      obtain ⟨n26, h25, hv⟩ := hv
      obtain ⟨h27, hv⟩ := hv
      refine z_iaload dX4_markKnown_68 h25.1 h25.2 h27 ?_
      refine z_iconst (v := 0) dX4_markKnown_69 (by decide) ?_
      obtain ⟨h28, hv⟩ := hv
      refine z_iastore dX4_markKnown_70 zn_70 zh_70 h28 (z_nmI (fun I30 e29 => ?_))
      have hv := hv I30 e29
      refine z_iinc (v2 := x4 + 1) (lv2 := [some (.ref 23), some (.ref p1), some (.ref p2), some (.ref p3), some (.int (x4 + 1)), some (.int (I b16 x4.toNatClampNeg))]) dX4_markKnown_71 rfl (by rfl) (by decide) rfl rfl ?_
      refine z_goto (tgt := 36) dX4_markKnown_74 (by decide) ?_
      exact z_sub (by exact ⟨rfl, ⟨rfl, ⟨rfl, ⟨rfl, ⟨rfl, trivial⟩⟩⟩⟩⟩) hv
abbrev v_X4_markKnown_3 (d : Nat) (Q : zQt) (p1 : Nat) (p2 : Nat) (p3 : Nat) (x4 : Int32) (I : zI) (L : zL) (P : zP) : Prop :=
  (p1 < 205 ∧ (zsh p1).1 = 5) ∧
  (((I p1 3) ≤ x4 →
    gw_X4_markKnown d Q 36 [some (.ref 23), some (.ref p1), some (.ref p2), some (.ref p3), some (.int 0), none] [] I L P
  ) ∧ (¬ (I p1 3) ≤ x4 →
    ∃ b3 : Nat, P p1 2 = some b3 ∧
    ∃ n6, (b3 < 205 ∧ zsh b3 = (100, n6)) ∧
    vp_in x4 n6 ∧
    ∃ n9, (p2 < 205 ∧ zsh p2 = (100, n9)) ∧
    vp_in (I b3 x4.toNatClampNeg) n9 ∧
    vp_in (I p2 (I b3 x4.toNatClampNeg).toNatClampNeg) 256 ∧
    ∀ I13 : zI, I13 = zuI I 70 (I p2 (I b3 x4.toNatClampNeg).toNatClampNeg).toNatClampNeg 1 →
    gw_X4_markKnown d Q 3 [some (.ref 23), some (.ref p1), some (.ref p2), some (.ref p3), some (.int (x4 + 1)), none] [] I13 L P
  ))
set_option maxRecDepth 20000 in
theorem g_X4_markKnown_3 {d : Nat} {Q : zQt} {p1 : Nat} {p2 : Nat} {p3 : Nat} {x4 : Int32} {I : zI} {L : zL} {P : zP} (hP : zPk P) (hv : v_X4_markKnown_3 d Q p1 p2 p3 x4 I L P) : gw_X4_markKnown d Q 3 [some (.ref 23), some (.ref p1), some (.ref p2), some (.ref p3), some (.int x4), none] [] I L P := by
  unfold v_X4_markKnown_3 at hv
  refine z_iload dX4_markKnown_3 rfl ?_
  refine z_aload_n dX4_markKnown_5 rfl ?_
  obtain ⟨h1, hv⟩ := hv
  refine z_getI dX4_markKnown_6 zf_X4_95 h1.1 h1.2 (fun _ _ _ _ _ => rfl) ?_
  refine z_icmp_ge (tgt := 33) dX4_markKnown_9 (by decide) (fun q2 => ?_) (fun q2 => ?_)
  · have hv := hv.1 q2
    refine z_iconst (v := 0) dX4_markKnown_33 (by decide) ?_
    refine z_istore (lv2 := [some (.ref 23), some (.ref p1), some (.ref p2), some (.ref p3), some (.int 0), none]) dX4_markKnown_34 (by decide) rfl rfl ?_
    exact hv
  · have hv := hv.2 q2
    refine z_aload_n dX4_markKnown_12 rfl ?_
    refine z_getP dX4_markKnown_13 zf_X4_22 zn_23 zo_23 (fun _ _ _ _ _ => rfl) (hP 23 2 70 zp_23_2) ?_
    refine z_aload_n dX4_markKnown_16 rfl ?_
    refine z_aload_n dX4_markKnown_17 rfl ?_
    obtain ⟨b3, h4, hv⟩ := hv
    refine z_getP dX4_markKnown_18 zf_X4_98 h1.1 h1.2 (fun _ _ _ _ _ => rfl) h4 ?_
    refine z_iload dX4_markKnown_21 rfl ?_
    obtain ⟨n6, h5, hv⟩ := hv
    obtain ⟨h7, hv⟩ := hv
    refine z_iaload dX4_markKnown_23 h5.1 h5.2 h7 ?_
    obtain ⟨n9, h8, hv⟩ := hv
    obtain ⟨h10, hv⟩ := hv
    refine z_iaload dX4_markKnown_24 h8.1 h8.2 h10 ?_
    refine z_iconst (v := 1) dX4_markKnown_25 (by decide) ?_
    obtain ⟨h11, hv⟩ := hv
    refine z_iastore dX4_markKnown_26 zn_70 zh_70 h11 (z_nmI (fun I13 e12 => ?_))
    have hv := hv I13 e12
    refine z_iinc (v2 := x4 + 1) (lv2 := [some (.ref 23), some (.ref p1), some (.ref p2), some (.ref p3), some (.int (x4 + 1)), none]) dX4_markKnown_27 rfl (by rfl) (by decide) rfl rfl ?_
    refine z_goto (tgt := 3) dX4_markKnown_30 (by decide) ?_
    exact hv
abbrev v_X4_markKnown (d : Nat) (Q : zQt) (p1 : Nat) (p2 : Nat) (p3 : Nat) (I : zI) (L : zL) (P : zP) : Prop :=
  gw_X4_markKnown d Q 3 [some (.ref 23), some (.ref p1), some (.ref p2), some (.ref p3), some (.int 0), none] [] I L P
set_option maxRecDepth 20000 in
theorem g_X4_markKnown {d : Nat} {Q : zQt} {p1 : Nat} {p2 : Nat} {p3 : Nat} {I : zI} {L : zL} {P : zP} (hP : zPk P) (hv : v_X4_markKnown d Q p1 p2 p3 I L P) : zM zm_X4_markKnown d 0 0 [.ref 23, .ref p1, .ref p2, .ref p3] I L P 205 Q := by
  unfold v_X4_markKnown at hv
  refine zM_of (lv0 := [some (.ref 23), some (.ref p1), some (.ref p2), some (.ref p3), none, none]) (by decide +kernel) (Nat.le_of_ble_eq_true rfl) rfl ?_
  refine z_iconst (v := 0) dX4_markKnown_0 (by decide) ?_
  refine z_istore (lv2 := [some (.ref 23), some (.ref p1), some (.ref p2), some (.ref p3), some (.int 0), none]) dX4_markKnown_1 (by decide) rfl rfl ?_
  exact hv
section MK
variable {d : Nat} {Q : zQt} {I0 : zI} {L : zL} {P : zP} {s l v r p : Nat} {xs : List Nat} {g : Nat → Nat}
theorem lp_X4_markKnown_36 (hP : zPk P) (hsc : sc s l v) (hp : p < 8) (hr : 25 ≤ r ∧ r ≤ 68) (hS : cS s l I0 xs) (hg : cG v p I0 xs g)
    (kk : ∀ I, cFr [70] I0 I → (∀ w ∈ xs, I 70 (g w) = bP (∀ u ∈ xs, g u = g w → ¬ I0 r u = 0)) → Q none I L P 205) :
    ∀ ys zs I, xs = zs ++ ys → cFr [70] I0 I → (∀ w ∈ xs, I 70 (g w) = bP (∀ u ∈ zs, g u = g w → ¬ I0 r u = 0)) →
      gw_X4_markKnown d Q 36 [some (.ref 23), some (.ref s), some (.ref (v + 2 + p)), some (.ref r), some (.int (nI zs.length)), none] [] I L P := by
  obtain ⟨p1, p2, p3, p4⟩ := sc_P hsc hP
  obtain ⟨-, -, -, -, -, v6⟩ := vw_P (sc_v hsc) hP
  have hsc2 := hsc
  unfold sc at hsc2
  intro ys
  induction ys with
  | nil =>
    intro zs I e hf h1
    rw [List.append_nil] at e
    subst e
    have hS1 := cS_c hS (show I s 3 = I0 s 3 by rw [hf s (by simp only [List.mem_cons, List.not_mem_nil, or_false]; omega)]) (hf l (by simp only [List.mem_cons, List.not_mem_nil, or_false]; omega))
    exact g_X4_markKnown_36 hP ⟨p1, fun _ => kk I hf h1, fun q => absurd (cS_end hS1) q⟩
  | cons x ys ih =>
    intro zs I e hf h1
    have hS1 := cS_c hS (show I s 3 = I0 s 3 by rw [hf s (by simp only [List.mem_cons, List.not_mem_nil, or_false]; omega)]) (hf l (by simp only [List.mem_cons, List.not_mem_nil, or_false]; omega))
    obtain ⟨a1, a2, a3, a4, a5, a6, a7, a8, a9⟩ := cS_on hS1 e
    have er : I r = I0 r := hf r (by simp only [List.mem_cons, List.not_mem_nil, or_false]; omega)
    obtain ⟨g1, g2⟩ := cG_c hg (hf (v + 2 + p) (by simp only [List.mem_cons, List.not_mem_nil, or_false]; omega)) x a7
    have e' : xs = (zs ++ [x]) ++ ys := by rw [e, List.append_assoc]; rfl
    refine g_X4_markKnown_36 hP ⟨p1, fun q => absurd q a1, fun _ => ⟨l, p2, 256, p3, a2, 256, rw_s hr, by rw [a3]; exact a6, fun q => ?_, fun q => ⟨256, (v6 p hp).2, by rw [a3]; exact a6, by rw [a3, a5, g2]; exact nx_in g1 (by decide), fun I1 e1 => ?_⟩⟩⟩
    · rw [a3, a5, er] at q
      rw [a8]
      refine ih (zs ++ [x]) I e' hf (fun w hw => ?_)
      rw [h1 w hw]
      refine bP_c ⟨fun z u hu hgu => ?_, fun z u hu => z u (mem_snoc.mpr (Or.inl hu))⟩
      rcases mem_snoc.mp hu with y | y
      · exact z u y hgu
      · rw [y]; exact q
    · rw [a3, a5, er] at q
      rw [a3, a5, g2, nI_cl (by omega)] at e1
      subst e1
      rw [a8]
      refine ih (zs ++ [x]) _ e' (cFr_c hf (by simp)) (fun w hw => ?_)
      by_cases hgw : g w = g x
      · rw [hgw, zuI_v, bP_f (fun z => z x (mem_snoc.mpr (Or.inr rfl)) rfl q)]
      · rw [zuI_o hgw, h1 w hw]
        refine bP_c ⟨fun z u hu hgu => ?_, fun z u hu => z u (mem_snoc.mpr (Or.inl hu))⟩
        rcases mem_snoc.mp hu with y | y
        · exact z u y hgu
        · rw [y] at hgu; exact absurd hgu.symm hgw
theorem lp_X4_markKnown_3 (hP : zPk P) (hsc : sc s l v) (hp : p < 8) (hS : cS s l I0 xs) (hg : cG v p I0 xs g)
    (kk : ∀ I, cFr [70] I0 I → (∀ w ∈ xs, I 70 (g w) = 1) → gw_X4_markKnown d Q 36 [some (.ref 23), some (.ref s), some (.ref (v + 2 + p)), some (.ref r), some (.int 0), none] [] I L P) :
    ∀ ys zs I, xs = zs ++ ys → cFr [70] I0 I → (∀ w ∈ zs, I 70 (g w) = 1) →
      gw_X4_markKnown d Q 3 [some (.ref 23), some (.ref s), some (.ref (v + 2 + p)), some (.ref r), some (.int (nI zs.length)), none] [] I L P := by
  obtain ⟨p1, p2, p3, p4⟩ := sc_P hsc hP
  obtain ⟨-, -, -, -, -, v6⟩ := vw_P (sc_v hsc) hP
  have hsc2 := hsc
  unfold sc at hsc2
  intro ys
  induction ys with
  | nil =>
    intro zs I e hf h1
    rw [List.append_nil] at e
    subst e
    have hS1 := cS_c hS (show I s 3 = I0 s 3 by rw [hf s (by simp only [List.mem_cons, List.not_mem_nil, or_false]; omega)]) (hf l (by simp only [List.mem_cons, List.not_mem_nil, or_false]; omega))
    exact g_X4_markKnown_3 hP ⟨p1, fun _ => kk I hf h1, fun q => absurd (cS_end hS1) q⟩
  | cons x ys ih =>
    intro zs I e hf h1
    have hS1 := cS_c hS (show I s 3 = I0 s 3 by rw [hf s (by simp only [List.mem_cons, List.not_mem_nil, or_false]; omega)]) (hf l (by simp only [List.mem_cons, List.not_mem_nil, or_false]; omega))
    obtain ⟨a1, a2, a3, a4, a5, a6, a7, a8, a9⟩ := cS_on hS1 e
    obtain ⟨g1, g2⟩ := cG_c hg (hf (v + 2 + p) (by simp only [List.mem_cons, List.not_mem_nil, or_false]; omega)) x a7
    refine g_X4_markKnown_3 hP ⟨p1, fun q => absurd q a1, fun _ => ⟨l, p2, 256, p3, a2, 256, (v6 p hp).2, by rw [a3]; exact a6, by rw [a3, a5, g2]; exact nx_in g1 (by decide), fun I1 e1 => ?_⟩⟩
    rw [a3, a5, g2, nI_cl (by omega)] at e1
    subst e1
    rw [a8]
    refine ih (zs ++ [x]) _ (by rw [e, List.append_assoc]; rfl) (cFr_c hf (by simp)) (fun w hw => ?_)
    by_cases hgw : g w = g x
    · rw [hgw, zuI_v]
    · rw [zuI_o hgw]
      rcases mem_snoc.mp hw with y | y
      · exact h1 w y
      · rw [y] at hgw; exact absurd rfl hgw
end MK
theorem sp_X4_markKnown {d : Nat} {I : zI} {L : zL} {P : zP} {s l v r p : Nat} {xs : List Nat} {g : Nat → Nat} (hP : zPk P) (hsc : sc s l v) (hp : p < 8) (hr : 25 ≤ r ∧ r ≤ 68) (hS : cS s l I xs) (hg : cG v p I xs g) {K : zI → zL → zP → Prop}
    (kk : ∀ I', cFr [70] I I' → (∀ w ∈ xs, I' 70 (g w) = bP (∀ u ∈ xs, g u = g w → ¬ I r u = 0)) → K I' L P) : zMv zm_X4_markKnown d [.ref 23, .ref s, .ref (v + 2 + p), .ref r] I L P K := by
  have hsc2 := hsc
  unfold sc at hsc2
  refine g_X4_markKnown hP (lp_X4_markKnown_3 hP hsc hp hS hg (fun I1 f1 f2 => ?_) xs [] I rfl (cFr_rf _ _) (fun w hw => absurd hw (by simp)))
  refine lp_X4_markKnown_36 hP hsc hp hr (I0 := I1) (cS_c hS (by rw [f1 s (by simp only [List.mem_cons, List.not_mem_nil, or_false]; omega)]) (f1 l (by simp only [List.mem_cons, List.not_mem_nil, or_false]; omega))) (cG_c hg (f1 (v + 2 + p) (by simp only [List.mem_cons, List.not_mem_nil, or_false]; omega))) (fun I2 f3 f4 => qv (kk I2 (cFr_tr f1 f3) (fun w hw => ?_))) xs [] I1 rfl (cFr_rf _ _) (fun w hw => ?_)
  · rw [f4 w hw, f1 r (by simp only [List.mem_cons, List.not_mem_nil, or_false]; omega)]
  · rw [f2 w hw, bP_t (fun u hu => absurd hu (by simp))]
abbrev gw_X4_knowsOne (d : Nat) (Q : zQt) (pc : Nat) (lv : zV) (st : List Value) (I : zI) (L : zL) (P : zP) : Prop := zW zm_X4_knowsOne (zRm d 0 0) 0 0 Q pc lv st I L P 205 0 0
abbrev v_X4_knowsOne_21 (d : Nat) (Q : zQt) (p1 : Nat) (p3 : Nat) (x4 : Nat) (x5 : Int32) (I : zI) (L : zL) (P : zP) : Prop :=
  (p1 < 205 ∧ (zsh p1).1 = 5) ∧
  (((I p1 3) ≤ x5 →
    Q none I L P 205
  ) ∧ (¬ (I p1 3) ≤ x5 →
    ∃ b16 : Nat, P p1 2 = some b16 ∧
    ∃ n19, (b16 < 205 ∧ zsh b16 = (100, n19)) ∧
    vp_in x5 n19 ∧
    ∃ n22, (x4 < 205 ∧ zsh x4 = (100, n22)) ∧
    vp_in (I b16 x5.toNatClampNeg) n22 ∧
    vp_in (I x4 (I b16 x5.toNatClampNeg).toNatClampNeg) 256 ∧
    ∃ n26, (p3 < 205 ∧ zsh p3 = (100, n26)) ∧
    vp_in (I b16 x5.toNatClampNeg) n26 ∧
    ∀ I29 : zI, I29 = zuI I p3 (I b16 x5.toNatClampNeg).toNatClampNeg (I 70 (I x4 (I b16 x5.toNatClampNeg).toNatClampNeg).toNatClampNeg) →
    gw_X4_knowsOne (d + 1) Q 21 [some (.ref 23), some (.ref p1), none, some (.ref p3), some (.ref x4), some (.int (x5 + 1)), none] [] I29 L P
  ))
set_option maxRecDepth 20000 in
theorem g_X4_knowsOne_21 {d : Nat} {Q : zQt} {p1 : Nat} {p3 : Nat} {x4 : Nat} {x5 : Int32} {I : zI} {L : zL} {P : zP} (hP : zPk P) (hv : v_X4_knowsOne_21 d Q p1 p3 x4 x5 I L P) : gw_X4_knowsOne (d + 1) Q 21 [some (.ref 23), some (.ref p1), none, some (.ref p3), some (.ref x4), some (.int x5), none] [] I L P := by
  unfold v_X4_knowsOne_21 at hv
  refine z_iload dX4_knowsOne_21 rfl ?_
  refine z_aload_n dX4_knowsOne_23 rfl ?_
  obtain ⟨h14, hv⟩ := hv
  refine z_getI dX4_knowsOne_24 zf_X4_95 h14.1 h14.2 (fun _ _ _ _ _ => rfl) ?_
  refine z_icmp_ge (tgt := 59) dX4_knowsOne_27 (by decide) (fun q15 => ?_) (fun q15 => ?_)
  · have hv := hv.1 q15
    exact z_return dX4_knowsOne_59 rfl (Nat.le_refl _) (Nat.le_refl _) hv
  · have hv := hv.2 q15
    refine z_aload_n dX4_knowsOne_30 rfl ?_
    obtain ⟨b16, h17, hv⟩ := hv
    refine z_getP dX4_knowsOne_31 zf_X4_98 h14.1 h14.2 (fun _ _ _ _ _ => rfl) h17 ?_
    refine z_iload dX4_knowsOne_34 rfl ?_
    obtain ⟨n19, h18, hv⟩ := hv
    obtain ⟨h20, hv⟩ := hv
    refine z_iaload dX4_knowsOne_36 h18.1 h18.2 h20 ?_
    refine z_istore (lv2 := [some (.ref 23), some (.ref p1), none, some (.ref p3), some (.ref x4), some (.int x5), some (.int (I b16 x5.toNatClampNeg))]) dX4_knowsOne_37 (by decide) rfl rfl ?_
    refine z_aload_n dX4_knowsOne_39 rfl ?_
    refine z_iload dX4_knowsOne_40 rfl ?_
    refine z_aload_n dX4_knowsOne_42 rfl ?_
    refine z_getP dX4_knowsOne_43 zf_X4_22 zn_23 zo_23 (fun _ _ _ _ _ => rfl) (hP 23 2 70 zp_23_2) ?_
    refine z_aload dX4_knowsOne_46 rfl ?_
    refine z_iload dX4_knowsOne_48 rfl ?_
    obtain ⟨n22, h21, hv⟩ := hv
    obtain ⟨h23, hv⟩ := hv
    refine z_iaload dX4_knowsOne_50 h21.1 h21.2 h23 ?_
    obtain ⟨h24, hv⟩ := hv
    refine z_iaload dX4_knowsOne_51 zn_70 zh_70 h24 ?_
    obtain ⟨n26, h25, hv⟩ := hv
    obtain ⟨h27, hv⟩ := hv
    refine z_iastore dX4_knowsOne_52 h25.1 h25.2 h27 (z_nmI (fun I29 e28 => ?_))
    have hv := hv I29 e28
    refine z_iinc (v2 := x5 + 1) (lv2 := [some (.ref 23), some (.ref p1), none, some (.ref p3), some (.ref x4), some (.int (x5 + 1)), some (.int (I b16 x5.toNatClampNeg))]) dX4_knowsOne_53 rfl (by rfl) (by decide) rfl rfl ?_
    refine z_goto (tgt := 21) dX4_knowsOne_56 (by decide) ?_
    exact z_sub (by exact ⟨rfl, ⟨rfl, ⟨rfl, ⟨rfl, ⟨rfl, trivial⟩⟩⟩⟩⟩) hv
abbrev v_X4_knowsOne (d : Nat) (Q : zQt) (p1 : Nat) (p2 : Int32) (p3 : Nat) (I : zI) (L : zL) (P : zP) : Prop :=
  (p1 < 205 ∧ (zsh p1).1 = 5) ∧
  ∃ b2 : Nat, P p1 0 = some b2 ∧
  (b2 < 205 ∧ (zsh b2).1 = 9) ∧
  vw b2 ∧
  vp_in p2 8 ∧
  zMv zm_X4_markKnown d [.ref 23, .ref p1, .ref (b2 + 2 + (p2 : Int32).toNatClampNeg), .ref p3] I L P (fun I9 L10 P11 =>
    gw_X4_knowsOne (d + 1) Q 21 [some (.ref 23), some (.ref p1), none, some (.ref p3), some (.ref (b2 + 2 + (p2 : Int32).toNatClampNeg)), some (.int 0), none] [] I9 L10 P11
  )
set_option maxRecDepth 20000 in
theorem g_X4_knowsOne {d : Nat} {Q : zQt} {p1 : Nat} {p2 : Int32} {p3 : Nat} {I : zI} {L : zL} {P : zP} (hP : zPk P) (hv : v_X4_knowsOne d Q p1 p2 p3 I L P) : zM zm_X4_knowsOne (d + 1) 0 0 [.ref 23, .ref p1, .int p2, .ref p3] I L P 205 Q := by
  unfold v_X4_knowsOne at hv
  refine zM_of (lv0 := [some (.ref 23), some (.ref p1), some (.int p2), some (.ref p3), none, none, none]) (by decide +kernel) (Nat.le_of_ble_eq_true rfl) rfl ?_
  refine z_aload_n dX4_knowsOne_0 rfl ?_
  obtain ⟨h1, hv⟩ := hv
  obtain ⟨b2, h3, hv⟩ := hv
  refine z_getP dX4_knowsOne_1 zf_X4_117 h1.1 h1.2 (fun _ _ _ _ _ => rfl) h3 ?_
  refine z_iload_n dX4_knowsOne_4 rfl ?_
  obtain ⟨h4, hv⟩ := hv
  obtain ⟨h5, hv⟩ := hv
  obtain ⟨h6, hv⟩ := hv
  refine z_callV (As := [.int p2]) (st := []) dX4_knowsOne_5 zl_X4_121 zv_X10_of (by decide) rfl h4.1 h4.2 rfl rfl (Nat.le_of_ble_eq_true rfl) ⟨Nat.le_refl _, Nat.le_refl _⟩ ⟨Nat.le_refl _, Nat.le_refl _⟩ (sp_X10_of hP h5 h6 (K := fun r I' L' P' => b2 + 2 + (p2 : Int32).toNatClampNeg = r ∧ I = I' ∧ L = L' ∧ P = P') ⟨rfl, rfl, rfl, rfl⟩) (fun v1 I2 L2 P2 nx1 q8 => ?_)
  obtain ⟨rfl, r7, rfl, rfl, rfl, rfl, rfl⟩ := q8
  refine z_astore (lv2 := [some (.ref 23), some (.ref p1), some (.int p2), some (.ref p3), some (.ref (b2 + 2 + (p2 : Int32).toNatClampNeg)), none, none]) dX4_knowsOne_8 (by decide) rfl rfl ?_
  refine z_aload_n dX4_knowsOne_10 rfl ?_
  refine z_aload_n dX4_knowsOne_11 rfl ?_
  refine z_aload dX4_knowsOne_12 rfl ?_
  refine z_aload_n dX4_knowsOne_14 rfl ?_
  refine z_callV (As := [.ref p1, .ref (b2 + 2 + (p2 : Int32).toNatClampNeg), .ref p3]) (st := []) dX4_knowsOne_15 zl_X4_127 zv_X4_markKnown (by decide) rfl zn_23 zo_23 rfl rfl (Nat.le_of_ble_eq_true rfl) ⟨Nat.le_refl _, Nat.le_refl _⟩ ⟨Nat.le_refl _, Nat.le_refl _⟩ hv (fun v1 I9 L10 P11 nx1 q12 => ?_)
  obtain ⟨rfl, rfl, hv⟩ := q12
  refine z_iconst (v := 0) dX4_knowsOne_18 (by decide) ?_
  refine z_istore (lv2 := [some (.ref 23), some (.ref p1), some (.int p2), some (.ref p3), some (.ref (b2 + 2 + (p2 : Int32).toNatClampNeg)), some (.int 0), none]) dX4_knowsOne_19 (by decide) rfl rfl ?_
  exact z_sub (by exact ⟨rfl, ⟨rfl, ⟨rfl, ⟨rfl, ⟨rfl, trivial⟩⟩⟩⟩⟩) hv
theorem lp_X4_knowsOne {d : Nat} {Q : zQt} {I0 : zI} {L : zL} {P : zP} {s l v r p : Nat} {xs : List Nat} {g : Nat → Nat} (hP : zPk P) (hsc : sc s l v) (hp : p < 8) (hr : 25 ≤ r ∧ r ≤ 68) (hS : cS s l I0 xs) (hg : cG v p I0 xs g)
    (kk : ∀ I, cFr [r] I0 I → (∀ w ∈ xs, I r w = I0 70 (g w)) → Q none I L P 205) :
    ∀ ys zs I, xs = zs ++ ys → cFr [r] I0 I → (∀ w ∈ zs, I r w = I0 70 (g w)) →
      gw_X4_knowsOne (d + 1) Q 21 [some (.ref 23), some (.ref s), none, some (.ref r), some (.ref (v + 2 + p)), some (.int (nI zs.length)), none] [] I L P := by
  obtain ⟨p1, p2, p3, p4⟩ := sc_P hsc hP
  obtain ⟨-, -, -, -, -, v6⟩ := vw_P (sc_v hsc) hP
  have hsc2 := hsc
  unfold sc at hsc2
  intro ys
  induction ys with
  | nil =>
    intro zs I e hf h1
    rw [List.append_nil] at e
    subst e
    have hS1 := cS_c hS (show I s 3 = I0 s 3 by rw [hf s (by simp only [List.mem_cons, List.not_mem_nil, or_false]; omega)]) (hf l (by simp only [List.mem_cons, List.not_mem_nil, or_false]; omega))
    exact g_X4_knowsOne_21 hP ⟨p1, fun _ => kk I hf h1, fun q => absurd (cS_end hS1) q⟩
  | cons x ys ih =>
    intro zs I e hf h1
    have hS1 := cS_c hS (show I s 3 = I0 s 3 by rw [hf s (by simp only [List.mem_cons, List.not_mem_nil, or_false]; omega)]) (hf l (by simp only [List.mem_cons, List.not_mem_nil, or_false]; omega))
    obtain ⟨a1, a2, a3, a4, a5, a6, a7, a8, a9⟩ := cS_on hS1 e
    obtain ⟨g1, g2⟩ := cG_c hg (hf (v + 2 + p) (by simp only [List.mem_cons, List.not_mem_nil, or_false]; omega)) x a7
    refine g_X4_knowsOne_21 hP ⟨p1, fun q => absurd q a1, fun _ => ⟨l, p2, 256, p3, a2, 256, (v6 p hp).2, by rw [a3]; exact a6, by rw [a3, a5, g2]; exact nx_in g1 (by decide), 256, rw_s hr, by rw [a3]; exact a6, fun I1 e1 => ?_⟩⟩
    rw [a3, a5, g2, nI_cl (by omega), hf 70 (by simp only [List.mem_cons, List.not_mem_nil, or_false]; omega)] at e1
    subst e1
    rw [a8]
    refine ih (zs ++ [x]) _ (by rw [e, List.append_assoc]; rfl) (cFr_c hf (by simp)) (fun w hw => ?_)
    by_cases hgw : w = x
    · rw [hgw, zuI_v]
    · rw [zuI_o hgw]
      rcases mem_snoc.mp hw with y | y
      · exact h1 w y
      · exact absurd y hgw
theorem sp_X4_knowsOne {d : Nat} {I : zI} {L : zL} {P : zP} {s l v r p : Nat} {xs : List Nat} {g : Nat → Nat} (hP : zPk P) (hsc : sc s l v) (hp : p < 8) (hr : 25 ≤ r ∧ r ≤ 68) (hS : cS s l I xs) (hg : cG v p I xs g) (hd : 1 ≤ d) {K : zI → zL → zP → Prop}
    (kk : ∀ I', cFr [70, r] I I' → (∀ w ∈ xs, I' r w = bP (∀ u ∈ xs, g u = g w → ¬ I r u = 0)) → K I' L P) : zMv zm_X4_knowsOne d [.ref 23, .ref s, .int (nI p), .ref r] I L P K := by
  obtain ⟨d, rfl⟩ : ∃ e, d = e + 1 := ⟨d - 1, by omega⟩
  obtain ⟨p1, p2, p3, p4⟩ := sc_P hsc hP
  obtain ⟨v1, -⟩ := vw_P (sc_v hsc) hP
  have hsc2 := hsc
  unfold sc at hsc2
  refine g_X4_knowsOne hP ?_
  unfold v_X4_knowsOne
  rw [nI_cl (show p < 2 ^ 31 by omega)]
  refine ⟨p1, v, p4, v1, sc_v hsc, nx_in hp (by decide), sp_X4_markKnown hP hsc hp hr hS hg (fun I1 f1 f2 => ?_)⟩
  refine lp_X4_knowsOne hP hsc hp hr (I0 := I1) (cS_c hS (by rw [f1 s (by simp only [List.mem_cons, List.not_mem_nil, or_false]; omega)]) (f1 l (by simp only [List.mem_cons, List.not_mem_nil, or_false]; omega))) (cG_c hg (f1 (v + 2 + p) (by simp only [List.mem_cons, List.not_mem_nil, or_false]; omega))) (fun I2 f3 f4 => qv (kk I2 (cFr_tr (cFr_wk f1 (by simp)) (cFr_wk f3 (by simp))) (fun w hw => by rw [f4 w hw, f2 w hw]))) xs [] I1 rfl (cFr_rf _ _) (fun w hw => absurd hw (by simp))
abbrev gw_X4_knowAll (d : Nat) (Q : zQt) (pc : Nat) (lv : zV) (st : List Value) (I : zI) (L : zL) (P : zP) : Prop := zW zm_X4_knowAll (zRm d 0 0) 0 0 Q pc lv st I L P 205 0 0
abbrev v_X4_knowAll_42 (d : Nat) (Q : zQt) (p1 : Nat) (p2 : Nat) (x3 : Int32) (x4 : Nat) (x5 : Int32) (I : zI) (L : zL) (P : zP) : Prop :=
  (p1 < 205 ∧ (zsh p1).1 = 5) ∧
  (((I p1 3) ≤ x5 →
    gw_X4_knowAll (d + 1) Q 10 [some (.ref 23), some (.ref p1), some (.ref p2), some (.int (x3 + 1)), none, none, none] [] I L P
  ) ∧ (¬ (I p1 3) ≤ x5 →
    ∃ b30 : Nat, P p1 2 = some b30 ∧
    ∃ n33, (b30 < 205 ∧ zsh b30 = (100, n33)) ∧
    vp_in x5 n33 ∧
    vp_in (I b30 x5.toNatClampNeg) 256 ∧
    ∃ n37, (x4 < 205 ∧ zsh x4 = (100, n37)) ∧
    vp_in (I b30 x5.toNatClampNeg) n37 ∧
    vp_in (I x4 (I b30 x5.toNatClampNeg).toNatClampNeg) 256 ∧
    ∀ I41 : zI, I41 = zuI I 69 (I b30 x5.toNatClampNeg).toNatClampNeg ((I 69 (I b30 x5.toNatClampNeg).toNatClampNeg) &&& (I 70 (I x4 (I b30 x5.toNatClampNeg).toNatClampNeg).toNatClampNeg) : Int32) →
    gw_X4_knowAll (d + 1) Q 42 [some (.ref 23), some (.ref p1), some (.ref p2), some (.int x3), some (.ref x4), some (.int (x5 + 1)), none] [] I41 L P
  ))
set_option maxRecDepth 20000 in
theorem g_X4_knowAll_42 {d : Nat} {Q : zQt} {p1 : Nat} {p2 : Nat} {x3 : Int32} {x4 : Nat} {x5 : Int32} {I : zI} {L : zL} {P : zP} (hP : zPk P) (hv : v_X4_knowAll_42 d Q p1 p2 x3 x4 x5 I L P) : gw_X4_knowAll (d + 1) Q 42 [some (.ref 23), some (.ref p1), some (.ref p2), some (.int x3), some (.ref x4), some (.int x5), none] [] I L P := by
  unfold v_X4_knowAll_42 at hv
  refine z_iload dX4_knowAll_42 rfl ?_
  refine z_aload_n dX4_knowAll_44 rfl ?_
  obtain ⟨h28, hv⟩ := hv
  refine z_getI dX4_knowAll_45 zf_X4_95 h28.1 h28.2 (fun _ _ _ _ _ => rfl) ?_
  refine z_icmp_ge (tgt := 86) dX4_knowAll_48 (by decide) (fun q29 => ?_) (fun q29 => ?_)
  · have hv := hv.1 q29
    refine z_iinc (v2 := x3 + 1) (lv2 := [some (.ref 23), some (.ref p1), some (.ref p2), some (.int (x3 + 1)), some (.ref x4), some (.int x5), none]) dX4_knowAll_86 rfl (by rfl) (by decide) rfl rfl ?_
    refine z_goto (tgt := 10) dX4_knowAll_89 (by decide) ?_
    exact z_sub (by exact ⟨rfl, ⟨rfl, ⟨rfl, ⟨rfl, trivial⟩⟩⟩⟩) hv
  · have hv := hv.2 q29
    refine z_aload_n dX4_knowAll_51 rfl ?_
    obtain ⟨b30, h31, hv⟩ := hv
    refine z_getP dX4_knowAll_52 zf_X4_98 h28.1 h28.2 (fun _ _ _ _ _ => rfl) h31 ?_
    refine z_iload dX4_knowAll_55 rfl ?_
    obtain ⟨n33, h32, hv⟩ := hv
    obtain ⟨h34, hv⟩ := hv
    refine z_iaload dX4_knowAll_57 h32.1 h32.2 h34 ?_
    refine z_istore (lv2 := [some (.ref 23), some (.ref p1), some (.ref p2), some (.int x3), some (.ref x4), some (.int x5), some (.int (I b30 x5.toNatClampNeg))]) dX4_knowAll_58 (by decide) rfl rfl ?_
    refine z_aload_n dX4_knowAll_60 rfl ?_
    refine z_getP dX4_knowAll_61 zf_X4_18 zn_23 zo_23 (fun _ _ _ _ _ => rfl) (hP 23 1 69 zp_23_1) ?_
    refine z_iload dX4_knowAll_64 rfl ?_
    refine z_dup2 dX4_knowAll_66 rfl rfl ?_
    obtain ⟨h35, hv⟩ := hv
    refine z_iaload dX4_knowAll_67 zn_69 zh_69 h35 ?_
    refine z_aload_n dX4_knowAll_68 rfl ?_
    refine z_getP dX4_knowAll_69 zf_X4_22 zn_23 zo_23 (fun _ _ _ _ _ => rfl) (hP 23 2 70 zp_23_2) ?_
    refine z_aload dX4_knowAll_72 rfl ?_
    refine z_iload dX4_knowAll_74 rfl ?_
    obtain ⟨n37, h36, hv⟩ := hv
    obtain ⟨h38, hv⟩ := hv
    refine z_iaload dX4_knowAll_76 h36.1 h36.2 h38 ?_
    obtain ⟨h39, hv⟩ := hv
    refine z_iaload dX4_knowAll_77 zn_70 zh_70 h39 ?_
    refine z_iand dX4_knowAll_78 ?_
    refine z_iastore dX4_knowAll_79 zn_69 zh_69 h35 (z_nmI (fun I41 e40 => ?_))
    have hv := hv I41 e40
    refine z_iinc (v2 := x5 + 1) (lv2 := [some (.ref 23), some (.ref p1), some (.ref p2), some (.int x3), some (.ref x4), some (.int (x5 + 1)), some (.int (I b30 x5.toNatClampNeg))]) dX4_knowAll_80 rfl (by rfl) (by decide) rfl rfl ?_
    refine z_goto (tgt := 42) dX4_knowAll_83 (by decide) ?_
    exact z_sub (by exact ⟨rfl, ⟨rfl, ⟨rfl, ⟨rfl, ⟨rfl, ⟨rfl, trivial⟩⟩⟩⟩⟩⟩) hv
abbrev v_X4_knowAll_10 (d : Nat) (Q : zQt) (p1 : Nat) (p2 : Nat) (x3 : Int32) (I : zI) (L : zL) (P : zP) : Prop :=
  (p1 < 205 ∧ (zsh p1).1 = 5) ∧
  ∃ b7 : Nat, P p1 1 = some b7 ∧
  (b7 < 205 ∧ (zsh b7).1 = 2) ∧
  (((I b7 0) ≤ x3 →
    ∃ n12, (p2 < 205 ∧ zsh p2 = (100, n12)) ∧
    (¬ (0 : Int32) < 0 ∧ ¬ (0 : Int32) < 0 ∧ ¬ (256 : Int32) < 0 ∧ (0 : Int32).toNatClampNeg + (256 : Int32).toNatClampNeg ≤ 256 ∧ (0 : Int32).toNatClampNeg + (256 : Int32).toNatClampNeg ≤ n12) ∧
    ∀ I14 : zI, I14 = zaI I p2 (va_cpy (I 69) (I p2) (0 : Int32).toNatClampNeg (0 : Int32).toNatClampNeg (256 : Int32).toNatClampNeg) →
    Q none I14 L P 205
  ) ∧ (¬ (I b7 0) ≤ x3 →
    ∃ b16 : Nat, P p1 0 = some b16 ∧
    (b16 < 205 ∧ (zsh b16).1 = 9) ∧
    vw b16 ∧
    vp_in x3 8 ∧
    zMv zm_X4_markKnown d [.ref 23, .ref p1, .ref (b16 + 2 + (x3 : Int32).toNatClampNeg), .ref p2] I L P (fun I23 L24 P25 =>
      gw_X4_knowAll (d + 1) Q 42 [some (.ref 23), some (.ref p1), some (.ref p2), some (.int x3), some (.ref (b16 + 2 + (x3 : Int32).toNatClampNeg)), some (.int 0), none] [] I23 L24 P25
    )
  ))
set_option maxRecDepth 20000 in
theorem g_X4_knowAll_10 {d : Nat} {Q : zQt} {p1 : Nat} {p2 : Nat} {x3 : Int32} {I : zI} {L : zL} {P : zP} (hP : zPk P) (hv : v_X4_knowAll_10 d Q p1 p2 x3 I L P) : gw_X4_knowAll (d + 1) Q 10 [some (.ref 23), some (.ref p1), some (.ref p2), some (.int x3), none, none, none] [] I L P := by
  unfold v_X4_knowAll_10 at hv
  refine z_iload_n dX4_knowAll_10 rfl ?_
  refine z_aload_n dX4_knowAll_11 rfl ?_
  obtain ⟨h6, hv⟩ := hv
  obtain ⟨b7, h8, hv⟩ := hv
  refine z_getP dX4_knowAll_12 zf_X4_35 h6.1 h6.2 (fun _ _ _ _ _ => rfl) h8 ?_
  obtain ⟨h9, hv⟩ := hv
  refine z_getI dX4_knowAll_15 zf_X4_137 h9.1 h9.2 (fun _ _ _ _ _ => rfl) ?_
  refine z_icmp_ge (tgt := 92) dX4_knowAll_18 (by decide) (fun q10 => ?_) (fun q10 => ?_)
  · have hv := hv.1 q10
    refine z_aload_n dX4_knowAll_92 rfl ?_
    refine z_getP dX4_knowAll_93 zf_X4_18 zn_23 zo_23 (fun _ _ _ _ _ => rfl) (hP 23 1 69 zp_23_1) ?_
    refine z_iconst (v := 0) dX4_knowAll_96 (by decide) ?_
    refine z_aload_n dX4_knowAll_97 rfl ?_
    refine z_iconst (v := 0) dX4_knowAll_98 (by decide) ?_
    refine z_sipush (v := 256) dX4_knowAll_99 (by decide) ?_
    obtain ⟨n12, h11, hv⟩ := hv
    obtain ⟨h13, hv⟩ := hv
    refine z_copyI dX4_knowAll_102 zl_X4_140 rfl zn_69 h11.1 zh_69 h11.2 h13.1 h13.2.1 h13.2.2.1 h13.2.2.2.1 h13.2.2.2.2 (Nat.le_of_ble_eq_true rfl) ⟨Nat.le_add_left _ _, zr64 _⟩ (z_nmI (fun I14 e15 => ?_))
    have hv := hv I14 e15
    exact z_return dX4_knowAll_105 rfl (Nat.le_refl _) (Nat.le_refl _) hv
  · have hv := hv.2 q10
    refine z_aload_n dX4_knowAll_21 rfl ?_
    obtain ⟨b16, h17, hv⟩ := hv
    refine z_getP dX4_knowAll_22 zf_X4_117 h6.1 h6.2 (fun _ _ _ _ _ => rfl) h17 ?_
    refine z_iload_n dX4_knowAll_25 rfl ?_
    obtain ⟨h18, hv⟩ := hv
    obtain ⟨h19, hv⟩ := hv
    obtain ⟨h20, hv⟩ := hv
    refine z_callV (As := [.int x3]) (st := []) dX4_knowAll_26 zl_X4_121 zv_X10_of (by decide) rfl h18.1 h18.2 rfl rfl (Nat.le_of_ble_eq_true rfl) ⟨Nat.le_refl _, Nat.le_refl _⟩ ⟨Nat.le_refl _, Nat.le_refl _⟩ (sp_X10_of hP h19 h20 (K := fun r I' L' P' => b16 + 2 + (x3 : Int32).toNatClampNeg = r ∧ I = I' ∧ L = L' ∧ P = P') ⟨rfl, rfl, rfl, rfl⟩) (fun v1 I2 L2 P2 nx1 q22 => ?_)
    obtain ⟨rfl, r21, rfl, rfl, rfl, rfl, rfl⟩ := q22
    refine z_astore (lv2 := [some (.ref 23), some (.ref p1), some (.ref p2), some (.int x3), some (.ref (b16 + 2 + (x3 : Int32).toNatClampNeg)), none, none]) dX4_knowAll_29 (by decide) rfl rfl ?_
    refine z_aload_n dX4_knowAll_31 rfl ?_
    refine z_aload_n dX4_knowAll_32 rfl ?_
    refine z_aload dX4_knowAll_33 rfl ?_
    refine z_aload_n dX4_knowAll_35 rfl ?_
    refine z_callV (As := [.ref p1, .ref (b16 + 2 + (x3 : Int32).toNatClampNeg), .ref p2]) (st := []) dX4_knowAll_36 zl_X4_127 zv_X4_markKnown (by decide) rfl zn_23 zo_23 rfl rfl (Nat.le_of_ble_eq_true rfl) ⟨Nat.le_refl _, Nat.le_refl _⟩ ⟨Nat.le_refl _, Nat.le_refl _⟩ hv (fun v1 I23 L24 P25 nx1 q26 => ?_)
    obtain ⟨rfl, rfl, hv⟩ := q26
    refine z_iconst (v := 0) dX4_knowAll_39 (by decide) ?_
    refine z_istore (lv2 := [some (.ref 23), some (.ref p1), some (.ref p2), some (.int x3), some (.ref (b16 + 2 + (x3 : Int32).toNatClampNeg)), some (.int 0), none]) dX4_knowAll_40 (by decide) rfl rfl ?_
    exact hv
abbrev v_X4_knowAll (d : Nat) (Q : zQt) (p1 : Nat) (p2 : Nat) (I : zI) (L : zL) (P : zP) : Prop :=
  zMv zm_J7_fill_53178 d [.ref 69, .int 1] I L P (fun I1 L2 P3 =>
    gw_X4_knowAll (d + 1) Q 10 [some (.ref 23), some (.ref p1), some (.ref p2), some (.int 0), none, none, none] [] I1 L2 P3
  )
set_option maxRecDepth 20000 in
theorem g_X4_knowAll {d : Nat} {Q : zQt} {p1 : Nat} {p2 : Nat} {I : zI} {L : zL} {P : zP} (hP : zPk P) (hv : v_X4_knowAll d Q p1 p2 I L P) : zM zm_X4_knowAll (d + 1) 0 0 [.ref 23, .ref p1, .ref p2] I L P 205 Q := by
  unfold v_X4_knowAll at hv
  refine zM_of (lv0 := [some (.ref 23), some (.ref p1), some (.ref p2), none, none, none, none]) (by decide +kernel) (Nat.le_of_ble_eq_true rfl) rfl ?_
  refine z_aload_n dX4_knowAll_0 rfl ?_
  refine z_getP dX4_knowAll_1 zf_X4_18 zn_23 zo_23 (fun _ _ _ _ _ => rfl) (hP 23 1 69 zp_23_1) ?_
  refine z_iconst (v := 1) dX4_knowAll_4 (by decide) ?_
  refine z_callS (As := [.ref 69, .int 1]) (st := []) dX4_knowAll_5 zl_X4_131 zs_J7_fill_53178 rfl rfl (Nat.le_of_ble_eq_true rfl) ⟨Nat.le_refl _, Nat.le_refl _⟩ ⟨Nat.le_refl _, Nat.le_refl _⟩ hv (fun v1 I1 L2 P3 nx1 q4 => ?_)
  obtain ⟨rfl, rfl, hv⟩ := q4
  refine z_iconst (v := 0) dX4_knowAll_8 (by decide) ?_
  refine z_istore_n (lv2 := [some (.ref 23), some (.ref p1), some (.ref p2), some (.int 0), none, none, none]) dX4_knowAll_9 (by decide) rfl rfl ?_
  exact hv
theorem bP_and {a b : Prop} : (bP a &&& bP b : Int32) = bP (a ∧ b) := by
  by_cases ha : a <;> by_cases hb : b
  · rw [bP_t ha, bP_t hb, bP_t ⟨ha, hb⟩]; decide
  · rw [bP_t ha, bP_f hb, bP_f (fun z => hb z.2)]; decide
  · rw [bP_f ha, bP_t hb, bP_f (fun z => ha z.1)]; decide
  · rw [bP_f ha, bP_f hb, bP_f (fun z => hb z.2)]; decide
theorem lp_X4_knowAll_42 {d : Nat} {Q : zQt} {I0 : zI} {L : zL} {P : zP} {s l v r p : Nat} {xs : List Nat} {g : Nat → Nat} (hP : zPk P) (hsc : sc s l v) (hp : p < 8) (hS : cS s l I0 xs) (hN : xs.Nodup) (hg : cG v p I0 xs g)
    (kk : ∀ I, cFr [69] I0 I → (∀ w ∈ xs, I 69 w = (I0 69 w &&& I0 70 (g w) : Int32)) → gw_X4_knowAll (d + 1) Q 10 [some (.ref 23), some (.ref s), some (.ref r), some (.int (nI (p + 1))), none, none, none] [] I L P) :
    ∀ ys zs I, xs = zs ++ ys → cFr [69] I0 I → (∀ w ∈ zs, I 69 w = (I0 69 w &&& I0 70 (g w) : Int32)) → (∀ w, w ∉ zs → I 69 w = I0 69 w) →
      gw_X4_knowAll (d + 1) Q 42 [some (.ref 23), some (.ref s), some (.ref r), some (.int (nI p)), some (.ref (v + 2 + p)), some (.int (nI zs.length)), none] [] I L P := by
  obtain ⟨p1, p2, p3, p4⟩ := sc_P hsc hP
  obtain ⟨-, -, -, -, -, v6⟩ := vw_P (sc_v hsc) hP
  have hsc2 := hsc
  unfold sc at hsc2
  intro ys
  induction ys with
  | nil =>
    intro zs I e hf h1 h2
    rw [List.append_nil] at e
    subst e
    have hS1 := cS_c hS (show I s 3 = I0 s 3 by rw [hf s (by simp only [List.mem_cons, List.not_mem_nil, or_false]; omega)]) (hf l (by simp only [List.mem_cons, List.not_mem_nil, or_false]; omega))
    refine g_X4_knowAll_42 hP ⟨p1, fun _ => ?_, fun q => absurd (cS_end hS1) q⟩
    rw [nI_1]
    exact kk I hf h1
  | cons x ys ih =>
    intro zs I e hf h1 h2
    have hS1 := cS_c hS (show I s 3 = I0 s 3 by rw [hf s (by simp only [List.mem_cons, List.not_mem_nil, or_false]; omega)]) (hf l (by simp only [List.mem_cons, List.not_mem_nil, or_false]; omega))
    obtain ⟨a1, a2, a3, a4, a5, a6, a7, a8, a9⟩ := cS_on hS1 e
    obtain ⟨g1, g2⟩ := cG_c hg (hf (v + 2 + p) (by simp only [List.mem_cons, List.not_mem_nil, or_false]; omega)) x a7
    have hx : x ∉ zs := by
      intro z
      rw [e, List.nodup_append] at hN
      exact hN.2.2 x z x (by simp) rfl
    refine g_X4_knowAll_42 hP ⟨p1, fun q => absurd q a1, fun _ => ⟨l, p2, 256, p3, a2, by rw [a3]; exact a6, 256, (v6 p hp).2, by rw [a3]; exact a6, by rw [a3, a5, g2]; exact nx_in g1 (by decide), fun I1 e1 => ?_⟩⟩
    rw [a3, a5, g2, nI_cl (by omega), hf 70 (by simp only [List.mem_cons, List.not_mem_nil, or_false]; omega), h2 x hx] at e1
    subst e1
    rw [a8]
    refine ih (zs ++ [x]) _ (by rw [e, List.append_assoc]; rfl) (cFr_c hf (by simp)) (fun w hw => ?_) (fun w hw => ?_)
    · by_cases hgw : w = x
      · rw [hgw, zuI_v]
      · rw [zuI_o hgw]
        rcases mem_snoc.mp hw with y | y
        · exact h1 w y
        · exact absurd y hgw
    · rw [zuI_o (fun z => hw (mem_snoc.mpr (Or.inr z)))]
      exact h2 w (fun z => hw (mem_snoc.mpr (Or.inl z)))
/-- the island of a scene, its people -/
def iH (t np : Nat) (I : zI) : Prop := il t ∧ np ≤ 8 ∧ I t 0 = nI np
theorem iH_c {t np : Nat} {I I' : zI} (h : iH t np I) (e : I' t = I t) : iH t np I' := ⟨h.1, h.2.1, by rw [e]; exact h.2.2⟩
theorem lp_X4_knowAll_10 {d : Nat} {Q : zQt} {I0 : zI} {L : zL} {P : zP} {s l v r t np : Nat} {xs : List Nat} {g : Nat → Nat → Nat} (hP : zPk P) (hsc : sc s l v) (hr : 25 ≤ r ∧ r ≤ 68) (hS : cS s l I0 xs) (hN : xs.Nodup) (ht : P s 1 = some t) (hH : iH t np I0) (hg : ∀ p, p < np → cG v p I0 xs (g p))
    (kk : ∀ I, cFr [69, 70, r] I0 I → (∀ w ∈ xs, I r w = bP (∀ p, p < np → ∀ u ∈ xs, g p u = g p w → ¬ I0 r u = 0)) → Q none I L P 205) :
    ∀ m i I, i + m = np → cFr [69, 70] I0 I → (∀ w ∈ xs, I 69 w = bP (∀ p, p < i → ∀ u ∈ xs, g p u = g p w → ¬ I0 r u = 0)) →
      gw_X4_knowAll (d + 1) Q 10 [some (.ref 23), some (.ref s), some (.ref r), some (.int (nI i)), none, none, none] [] I L P := by
  obtain ⟨p1, p2, p3, p4⟩ := sc_P hsc hP
  obtain ⟨v1, -⟩ := vw_P (sc_v hsc) hP
  have hsc2 := hsc
  unfold sc at hsc2
  obtain ⟨i1, i2, i3⟩ := hH
  have i1' := i1
  unfold il at i1'
  have b1 := (il_P i1 hP).1
  intro m
  induction m with
  | zero =>
    intro i I hi hf h1
    have : i = np := by omega
    subst this
    have e0 : I t 0 = nI i := by rw [hf t (by simp only [List.mem_cons, List.not_mem_nil, or_false]; omega)]; exact i3
    refine g_X4_knowAll_10 hP ⟨p1, t, ht, b1, fun _ => ⟨256, rw_s hr, by decide, fun I1 e1 => ?_⟩, fun q => absurd (by rw [e0]; exact nI_le (Nat.le_refl _) (by omega)) q⟩
    subst e1
    refine kk _ (cFr_a (cFr_wk hf (by simp)) (by simp)) (fun w hw => ?_)
    have hw2 := hS.2.2.1 w hw
    rw [zaI_at, pk_cpy_in (by show 0 ≤ w; omega) (by show w < 0 + 256; omega)]
    show I 69 (0 + (w - 0)) = _
    rw [Nat.zero_add, Nat.sub_zero]
    exact h1 w hw
  | succ m ih =>
    intro i I hi hf h1
    have e0 : I t 0 = nI np := by rw [hf t (by simp only [List.mem_cons, List.not_mem_nil, or_false]; omega)]; exact i3
    have h8 : i < 8 := by omega
    have hS1 := cS_c hS (show I s 3 = I0 s 3 by rw [hf s (by simp only [List.mem_cons, List.not_mem_nil, or_false]; omega)]) (hf l (by simp only [List.mem_cons, List.not_mem_nil, or_false]; omega))
    have hg1 := cG_c (hg i (by omega)) (hf (v + 2 + i) (by simp only [List.mem_cons, List.not_mem_nil, or_false]; omega))
    refine g_X4_knowAll_10 hP ?_
    unfold v_X4_knowAll_10
    rw [nI_cl (show i < 2 ^ 31 by omega)]
    refine ⟨p1, t, ht, b1, fun q => absurd q (by rw [e0]; exact nI_ge (by omega) (by omega)), fun _ => ⟨v, p4, v1, sc_v hsc, nx_in h8 (by decide), sp_X4_markKnown hP hsc h8 hr hS1 hg1 (fun I1 f1 f2 => ?_)⟩⟩
    refine lp_X4_knowAll_42 hP hsc h8 (I0 := I1) (cS_c hS1 (by rw [f1 s (by simp only [List.mem_cons, List.not_mem_nil, or_false]; omega)]) (f1 l (by simp only [List.mem_cons, List.not_mem_nil, or_false]; omega))) hN (cG_c hg1 (f1 (v + 2 + i) (by simp only [List.mem_cons, List.not_mem_nil, or_false]; omega))) (fun I2 f3 f4 => ?_) xs [] I1 rfl (cFr_rf _ _) (fun w hw => absurd hw (by simp)) (fun _ _ => rfl)
    refine ih (i + 1) I2 (by omega) (cFr_tr hf (cFr_tr (cFr_wk f1 (by simp)) (cFr_wk f3 (by simp)))) (fun w hw => ?_)
    rw [f4 w hw, f1 69 (by simp only [List.mem_cons, List.not_mem_nil, or_false]; omega), h1 w hw, f2 w hw, bP_and, hf r (by simp only [List.mem_cons, List.not_mem_nil, or_false]; omega)]
    refine bP_c ⟨fun z p hp => ?_, fun z => ⟨fun p hp => z p (by omega), z i (by omega)⟩⟩
    rcases Nat.lt_succ_iff_lt_or_eq.mp hp with y | y
    · exact z.1 p y
    · subst y; exact z.2
theorem sp_X4_knowAll {d : Nat} {I : zI} {L : zL} {P : zP} {s l v r t np : Nat} {xs : List Nat} {g : Nat → Nat → Nat} (hP : zPk P) (hsc : sc s l v) (hr : 25 ≤ r ∧ r ≤ 68) (hS : cS s l I xs) (hN : xs.Nodup) (ht : P s 1 = some t) (hH : iH t np I) (hg : ∀ p, p < np → cG v p I xs (g p)) (hd : 1 ≤ d) {K : zI → zL → zP → Prop}
    (kk : ∀ I', cFr [69, 70, r] I I' → (∀ w ∈ xs, I' r w = bP (∀ p, p < np → ∀ u ∈ xs, g p u = g p w → ¬ I r u = 0)) → K I' L P) : zMv zm_X4_knowAll d [.ref 23, .ref s, .ref r] I L P K := by
  obtain ⟨d, rfl⟩ : ∃ e, d = e + 1 := ⟨d - 1, by omega⟩
  have hsc2 := hsc
  unfold sc at hsc2
  have i1 := hH.1
  have i2 := hH.2.1
  unfold il at i1
  refine g_X4_knowAll hP (sp_fill hP (n := 256) ⟨by decide, rfl⟩ (by decide) (fun I1 f1 f2 => ?_))
  refine lp_X4_knowAll_10 hP hsc hr (I0 := I1) (np := np) (cS_c hS (by rw [f1 s (by simp only [List.mem_cons, List.not_mem_nil, or_false]; omega)]) (f1 l (by simp only [List.mem_cons, List.not_mem_nil, or_false]; omega))) hN ht (iH_c hH (f1 t (by simp only [List.mem_cons, List.not_mem_nil, or_false]; omega))) (fun p hp => cG_c (hg p hp) (f1 (v + 2 + p) (by simp only [List.mem_cons, List.not_mem_nil, or_false]; omega))) (fun I2 f3 f4 => qv (kk I2 (cFr_tr (cFr_wk f1 (by simp)) f3) (fun w hw => ?_))) np 0 I1 (by omega) (cFr_rf _ _) (fun w hw => ?_)
  · rw [f4 w hw, f1 r (by simp only [List.mem_cons, List.not_mem_nil, or_false]; omega)]
  · rw [f2 w (hS.2.2.1 w hw), bP_t (fun p hp => absurd hp (Nat.not_lt_zero p))]
