/-! ===== the class: one's own mark, who goes ===== -/
/-- 1: some has the mark; 2: some has it not -/
noncomputable def mo (a b : Prop) : Int32 := nI ((@ite _ a (Classical.propDecidable _) 1 0) + (@ite _ b (Classical.propDecidable _) 2 0))
theorem mo_v (a b : Prop) : mo a b = if (@decide a (Classical.propDecidable _)) then (if (@decide b (Classical.propDecidable _)) then 3 else 1) else (if (@decide b (Classical.propDecidable _)) then 2 else 0) := by
  unfold mo
  by_cases ha : a <;> by_cases hb : b <;> simp only [ha, hb, if_true, if_false, decide_true, decide_false] <;> decide
theorem mo_tt {a b : Prop} (ha : a) (hb : b) : mo a b = 3 := by unfold mo; rw [if_pos ha, if_pos hb]; rfl
theorem mo_tf {a b : Prop} (ha : a) (hb : ¬ b) : mo a b = 1 := by unfold mo; rw [if_pos ha, if_neg hb]; rfl
theorem mo_ft {a b : Prop} (ha : ¬ a) (hb : b) : mo a b = 2 := by unfold mo; rw [if_neg ha, if_pos hb]; rfl
theorem mo_ff {a b : Prop} (ha : ¬ a) (hb : ¬ b) : mo a b = 0 := by unfold mo; rw [if_neg ha, if_neg hb]; rfl
theorem mo_c {a b a' b' : Prop} (ha : a ↔ a') (hb : b ↔ b') : mo a b = mo a' b' := by rw [propext ha, propext hb]
theorem mo_1 {a a' b : Prop} (h : a') : (mo a b ||| 1 : Int32) = mo a' b := by
  by_cases ha : a <;> by_cases hb : b
  · rw [mo_tt ha hb, mo_tt h hb]; decide
  · rw [mo_tf ha hb, mo_tf h hb]; decide
  · rw [mo_ft ha hb, mo_tt h hb]; decide
  · rw [mo_ff ha hb, mo_tf h hb]; decide
theorem mo_2 {a b b' : Prop} (h : b') : (mo a b ||| 2 : Int32) = mo a b' := by
  by_cases ha : a <;> by_cases hb : b
  · rw [mo_tt ha hb, mo_tt ha h]; decide
  · rw [mo_tf ha hb, mo_tt ha h]; decide
  · rw [mo_ft ha hb, mo_ft ha h]; decide
  · rw [mo_ff ha hb, mo_ft ha h]; decide
def oA (p : Nat) (g : Nat → Nat) (zs : List Nat) (w : Nat) (b : Bool) : Prop := ∃ u ∈ zs, g u = g w ∧ u.testBit p = b
abbrev gw_X4_markOwn (d : Nat) (Q : zQt) (pc : Nat) (lv : zV) (st : List Value) (I : zI) (L : zL) (P : zP) : Prop := zW zm_X4_markOwn (zRm d 0 0) 0 0 Q pc lv st I L P 205 0 0
abbrev v_X4_markOwn_36 (d : Nat) (Q : zQt) (p1 : Nat) (p2 : Int32) (p3 : Nat) (x4 : Int32) (I : zI) (L : zL) (P : zP) : Prop :=
  (p1 < 205 ∧ (zsh p1).1 = 5) ∧
  (((I p1 3) ≤ x4 →
    Q none I L P 205
  ) ∧ (¬ (I p1 3) ≤ x4 →
    ∃ b16 : Nat, P p1 2 = some b16 ∧
    ∃ n19, (b16 < 205 ∧ zsh b16 = (100, n19)) ∧
    vp_in x4 n19 ∧
    ∃ n22, (p3 < 205 ∧ zsh p3 = (100, n22)) ∧
    vp_in (I b16 x4.toNatClampNeg) n22 ∧
    vp_in (I p3 (I b16 x4.toNatClampNeg).toNatClampNeg) 256 ∧
    ((¬ (((I b16 x4.toNatClampNeg) >>> (p2 &&& 31) : Int32) &&& 1 : Int32) = 1 →
      ∀ I27 : zI, I27 = zuI I 70 (I p3 (I b16 x4.toNatClampNeg).toNatClampNeg).toNatClampNeg ((I 70 (I p3 (I b16 x4.toNatClampNeg).toNatClampNeg).toNatClampNeg) ||| 2 : Int32) →
      gw_X4_markOwn d Q 36 [some (.ref 23), some (.ref p1), some (.int p2), some (.ref p3), some (.int (x4 + 1)), none] [] I27 L P
    ) ∧ ((((I b16 x4.toNatClampNeg) >>> (p2 &&& 31) : Int32) &&& 1 : Int32) = 1 →
      ∀ I29 : zI, I29 = zuI I 70 (I p3 (I b16 x4.toNatClampNeg).toNatClampNeg).toNatClampNeg ((I 70 (I p3 (I b16 x4.toNatClampNeg).toNatClampNeg).toNatClampNeg) ||| 1 : Int32) →
      gw_X4_markOwn d Q 36 [some (.ref 23), some (.ref p1), some (.int p2), some (.ref p3), some (.int (x4 + 1)), none] [] I29 L P
    ))
  ))
set_option maxRecDepth 20000 in
theorem g_X4_markOwn_36 {d : Nat} {Q : zQt} {p1 : Nat} {p2 : Int32} {p3 : Nat} {x4 : Int32} {I : zI} {L : zL} {P : zP} (hP : zPk P) (hv : v_X4_markOwn_36 d Q p1 p2 p3 x4 I L P) : gw_X4_markOwn d Q 36 [some (.ref 23), some (.ref p1), some (.int p2), some (.ref p3), some (.int x4), none] [] I L P := by
  unfold v_X4_markOwn_36 at hv
  refine z_iload dX4_markOwn_36 rfl ?_
  refine z_aload_n dX4_markOwn_38 rfl ?_
  obtain ⟨h14, hv⟩ := hv
  refine z_getI dX4_markOwn_39 zf_X4_95 h14.1 h14.2 (fun _ _ _ _ _ => rfl) ?_
  refine z_icmp_ge (tgt := 87) dX4_markOwn_42 (by decide) (fun q15 => ?_) (fun q15 => ?_)
  · have hv := hv.1 q15
    exact z_return dX4_markOwn_87 rfl (Nat.le_refl _) (Nat.le_refl _) hv
  · have hv := hv.2 q15
    refine z_aload_n dX4_markOwn_45 rfl ?_
    obtain ⟨b16, h17, hv⟩ := hv
    refine z_getP dX4_markOwn_46 zf_X4_98 h14.1 h14.2 (fun _ _ _ _ _ => rfl) h17 ?_
    refine z_iload dX4_markOwn_49 rfl ?_
    obtain ⟨n19, h18, hv⟩ := hv
    obtain ⟨h20, hv⟩ := hv
    refine z_iaload dX4_markOwn_51 h18.1 h18.2 h20 ?_
    refine z_istore (lv2 := [some (.ref 23), some (.ref p1), some (.int p2), some (.ref p3), some (.int x4), some (.int (I b16 x4.toNatClampNeg))]) dX4_markOwn_52 (by decide) rfl rfl ?_
    refine z_aload_n dX4_markOwn_54 rfl ?_
    refine z_getP dX4_markOwn_55 zf_X4_22 zn_23 zo_23 (fun _ _ _ _ _ => rfl) (hP 23 2 70 zp_23_2) ?_
    refine z_aload_n dX4_markOwn_58 rfl ?_
    refine z_iload dX4_markOwn_59 rfl ?_
    obtain ⟨n22, h21, hv⟩ := hv
    obtain ⟨h23, hv⟩ := hv
    refine z_iaload dX4_markOwn_61 h21.1 h21.2 h23 ?_
    refine z_dup2 dX4_markOwn_62 rfl rfl ?_
    obtain ⟨h24, hv⟩ := hv
    refine z_iaload dX4_markOwn_63 zn_70 zh_70 h24 ?_
    refine z_iload dX4_markOwn_64 rfl ?_
    refine z_iload_n dX4_markOwn_66 rfl ?_
    refine z_ishr dX4_markOwn_67 ?_
    refine z_iconst (v := 1) dX4_markOwn_68 (by decide) ?_
    refine z_iand dX4_markOwn_69 ?_
    refine z_iconst (v := 1) dX4_markOwn_70 (by decide) ?_
    refine z_icmp_ne (tgt := 78) dX4_markOwn_71 (by decide) (fun q25 => ?_) (fun q25 => ?_)
    · have hv := hv.1 q25
      refine z_iconst (v := 2) dX4_markOwn_78 (by decide) ?_
      refine z_ior dX4_markOwn_79 ?_
      refine z_iastore dX4_markOwn_80 zn_70 zh_70 h24 (z_nmI (fun I27 e26 => ?_))
      have hv := hv I27 e26
      refine z_iinc (v2 := x4 + 1) (lv2 := [some (.ref 23), some (.ref p1), some (.int p2), some (.ref p3), some (.int (x4 + 1)), some (.int (I b16 x4.toNatClampNeg))]) dX4_markOwn_81 rfl (by rfl) (by decide) rfl rfl ?_
      refine z_goto (tgt := 36) dX4_markOwn_84 (by decide) ?_
      exact z_sub (by exact ⟨rfl, ⟨rfl, ⟨rfl, ⟨rfl, ⟨rfl, trivial⟩⟩⟩⟩⟩) hv
    · have hv := hv.2 q25
      refine z_iconst (v := 1) dX4_markOwn_74 (by decide) ?_
      refine z_goto (tgt := 79) dX4_markOwn_75 (by decide) ?_
      refine z_ior dX4_markOwn_79 ?_
      refine z_iastore dX4_markOwn_80 zn_70 zh_70 h24 (z_nmI (fun I29 e28 => ?_))
      have hv := hv I29 e28
      refine z_iinc (v2 := x4 + 1) (lv2 := [some (.ref 23), some (.ref p1), some (.int p2), some (.ref p3), some (.int (x4 + 1)), some (.int (I b16 x4.toNatClampNeg))]) dX4_markOwn_81 rfl (by rfl) (by decide) rfl rfl ?_
      refine z_goto (tgt := 36) dX4_markOwn_84 (by decide) ?_
      exact z_sub (by exact ⟨rfl, ⟨rfl, ⟨rfl, ⟨rfl, ⟨rfl, trivial⟩⟩⟩⟩⟩) hv
abbrev v_X4_markOwn_3 (d : Nat) (Q : zQt) (p1 : Nat) (p2 : Int32) (p3 : Nat) (x4 : Int32) (I : zI) (L : zL) (P : zP) : Prop :=
  (p1 < 205 ∧ (zsh p1).1 = 5) ∧
  (((I p1 3) ≤ x4 →
    gw_X4_markOwn d Q 36 [some (.ref 23), some (.ref p1), some (.int p2), some (.ref p3), some (.int 0), none] [] I L P
  ) ∧ (¬ (I p1 3) ≤ x4 →
    ∃ b3 : Nat, P p1 2 = some b3 ∧
    ∃ n6, (b3 < 205 ∧ zsh b3 = (100, n6)) ∧
    vp_in x4 n6 ∧
    ∃ n9, (p3 < 205 ∧ zsh p3 = (100, n9)) ∧
    vp_in (I b3 x4.toNatClampNeg) n9 ∧
    vp_in (I p3 (I b3 x4.toNatClampNeg).toNatClampNeg) 256 ∧
    ∀ I13 : zI, I13 = zuI I 70 (I p3 (I b3 x4.toNatClampNeg).toNatClampNeg).toNatClampNeg 0 →
    gw_X4_markOwn d Q 3 [some (.ref 23), some (.ref p1), some (.int p2), some (.ref p3), some (.int (x4 + 1)), none] [] I13 L P
  ))
set_option maxRecDepth 20000 in
theorem g_X4_markOwn_3 {d : Nat} {Q : zQt} {p1 : Nat} {p2 : Int32} {p3 : Nat} {x4 : Int32} {I : zI} {L : zL} {P : zP} (hP : zPk P) (hv : v_X4_markOwn_3 d Q p1 p2 p3 x4 I L P) : gw_X4_markOwn d Q 3 [some (.ref 23), some (.ref p1), some (.int p2), some (.ref p3), some (.int x4), none] [] I L P := by
  unfold v_X4_markOwn_3 at hv
  refine z_iload dX4_markOwn_3 rfl ?_
  refine z_aload_n dX4_markOwn_5 rfl ?_
  obtain ⟨h1, hv⟩ := hv
  refine z_getI dX4_markOwn_6 zf_X4_95 h1.1 h1.2 (fun _ _ _ _ _ => rfl) ?_
  refine z_icmp_ge (tgt := 33) dX4_markOwn_9 (by decide) (fun q2 => ?_) (fun q2 => ?_)
  · have hv := hv.1 q2
    refine z_iconst (v := 0) dX4_markOwn_33 (by decide) ?_
    refine z_istore (lv2 := [some (.ref 23), some (.ref p1), some (.int p2), some (.ref p3), some (.int 0), none]) dX4_markOwn_34 (by decide) rfl rfl ?_
    exact hv
  · have hv := hv.2 q2
    refine z_aload_n dX4_markOwn_12 rfl ?_
    refine z_getP dX4_markOwn_13 zf_X4_22 zn_23 zo_23 (fun _ _ _ _ _ => rfl) (hP 23 2 70 zp_23_2) ?_
    refine z_aload_n dX4_markOwn_16 rfl ?_
    refine z_aload_n dX4_markOwn_17 rfl ?_
    obtain ⟨b3, h4, hv⟩ := hv
    refine z_getP dX4_markOwn_18 zf_X4_98 h1.1 h1.2 (fun _ _ _ _ _ => rfl) h4 ?_
    refine z_iload dX4_markOwn_21 rfl ?_
    obtain ⟨n6, h5, hv⟩ := hv
    obtain ⟨h7, hv⟩ := hv
    refine z_iaload dX4_markOwn_23 h5.1 h5.2 h7 ?_
    obtain ⟨n9, h8, hv⟩ := hv
    obtain ⟨h10, hv⟩ := hv
    refine z_iaload dX4_markOwn_24 h8.1 h8.2 h10 ?_
    refine z_iconst (v := 0) dX4_markOwn_25 (by decide) ?_
    obtain ⟨h11, hv⟩ := hv
    refine z_iastore dX4_markOwn_26 zn_70 zh_70 h11 (z_nmI (fun I13 e12 => ?_))
    have hv := hv I13 e12
    refine z_iinc (v2 := x4 + 1) (lv2 := [some (.ref 23), some (.ref p1), some (.int p2), some (.ref p3), some (.int (x4 + 1)), none]) dX4_markOwn_27 rfl (by rfl) (by decide) rfl rfl ?_
    refine z_goto (tgt := 3) dX4_markOwn_30 (by decide) ?_
    exact hv
abbrev v_X4_markOwn (d : Nat) (Q : zQt) (p1 : Nat) (p2 : Int32) (p3 : Nat) (I : zI) (L : zL) (P : zP) : Prop :=
  gw_X4_markOwn d Q 3 [some (.ref 23), some (.ref p1), some (.int p2), some (.ref p3), some (.int 0), none] [] I L P
set_option maxRecDepth 20000 in
theorem g_X4_markOwn {d : Nat} {Q : zQt} {p1 : Nat} {p2 : Int32} {p3 : Nat} {I : zI} {L : zL} {P : zP} (hP : zPk P) (hv : v_X4_markOwn d Q p1 p2 p3 I L P) : zM zm_X4_markOwn d 0 0 [.ref 23, .ref p1, .int p2, .ref p3] I L P 205 Q := by
  unfold v_X4_markOwn at hv
  refine zM_of (lv0 := [some (.ref 23), some (.ref p1), some (.int p2), some (.ref p3), none, none]) (by decide +kernel) (Nat.le_of_ble_eq_true rfl) rfl ?_
  refine z_iconst (v := 0) dX4_markOwn_0 (by decide) ?_
  refine z_istore (lv2 := [some (.ref 23), some (.ref p1), some (.int p2), some (.ref p3), some (.int 0), none]) dX4_markOwn_1 (by decide) rfl rfl ?_
  exact hv
section MO
variable {d : Nat} {Q : zQt} {I0 : zI} {L : zL} {P : zP} {s l v p : Nat} {xs : List Nat} {g : Nat → Nat}
theorem lp_X4_markOwn_36 (hP : zPk P) (hsc : sc s l v) (hp : p < 8) (hS : cS s l I0 xs) (hg : cG v p I0 xs g)
    (kk : ∀ I, cFr [70] I0 I → (∀ w ∈ xs, I 70 (g w) = mo (oA p g xs w true) (oA p g xs w false)) → Q none I L P 205) :
    ∀ ys zs I, xs = zs ++ ys → cFr [70] I0 I → (∀ w ∈ xs, I 70 (g w) = mo (oA p g zs w true) (oA p g zs w false)) →
      gw_X4_markOwn d Q 36 [some (.ref 23), some (.ref s), some (.int (nI p)), some (.ref (v + 2 + p)), some (.int (nI zs.length)), none] [] I L P := by
  obtain ⟨p1, p2, p3, p4⟩ := sc_P hsc hP
  obtain ⟨-, -, -, -, -, v6⟩ := vw_P (sc_v hsc) hP
  have hsc2 := hsc
  unfold sc at hsc2
  intro ys
  induction ys with
  | nil =>
    intro zs I e hf h1
    rw [List.append_nil] at e
    subst e
    have hS1 := cS_c hS (show I s 3 = I0 s 3 by rw [hf s (by simp only [List.mem_cons, List.not_mem_nil, or_false]; omega)]) (hf l (by simp only [List.mem_cons, List.not_mem_nil, or_false]; omega))
    exact g_X4_markOwn_36 hP ⟨p1, fun _ => kk I hf h1, fun q => absurd (cS_end hS1) q⟩
  | cons x ys ih =>
    intro zs I e hf h1
    have hS1 := cS_c hS (show I s 3 = I0 s 3 by rw [hf s (by simp only [List.mem_cons, List.not_mem_nil, or_false]; omega)]) (hf l (by simp only [List.mem_cons, List.not_mem_nil, or_false]; omega))
    obtain ⟨a1, a2, a3, a4, a5, a6, a7, a8, a9⟩ := cS_on hS1 e
    obtain ⟨g1, g2⟩ := cG_c hg (hf (v + 2 + p) (by simp only [List.mem_cons, List.not_mem_nil, or_false]; omega)) x a7
    have e' : xs = (zs ++ [x]) ++ ys := by rw [e, List.append_assoc]; rfl
    have same : ∀ w b, ¬ (g w = g x ∧ x.testBit p = b) → (oA p g zs w b ↔ oA p g (zs ++ [x]) w b) := by
      intro w b hn
      constructor
      · rintro ⟨u, hu, z⟩; exact ⟨u, mem_snoc.mpr (Or.inl hu), z⟩
      · rintro ⟨u, hu, z⟩
        rcases mem_snoc.mp hu with y | y
        · exact ⟨u, y, z⟩
        · subst y; exact absurd ⟨z.1.symm, z.2⟩ hn
    refine g_X4_markOwn_36 hP ⟨p1, fun q => absurd q a1, fun _ => ⟨l, p2, 256, p3, a2, 256, (v6 p hp).2, by rw [a3]; exact a6, by rw [a3, a5, g2]; exact nx_in g1 (by decide), fun q I1 e1 => ?_, fun q I1 e1 => ?_⟩⟩
    · rw [a3, nx_bit (by omega) (by omega), bP_1] at q
      have q : x.testBit p = false := by simpa using q
      rw [a3, a5, g2, nI_cl (by omega), h1 x a7] at e1
      subst e1
      rw [a8]
      refine ih (zs ++ [x]) _ e' (cFr_c hf (by simp)) (fun w hw => ?_)
      by_cases hgw : g w = g x
      · rw [hgw, zuI_v]
        have hh : oA p g (zs ++ [x]) w false := ⟨x, mem_snoc.mpr (Or.inr rfl), hgw.symm, q⟩
        rw [mo_2 hh]
        have e3 : oA p g zs x true ↔ oA p g zs w true := by unfold oA; rw [hgw]
        exact mo_c (e3.trans (same w true (fun z => by rw [q] at z; exact absurd z.2 (by decide)))) Iff.rfl
      · rw [zuI_o hgw, h1 w hw]
        exact mo_c (same w true (fun z => hgw z.1)) (same w false (fun z => hgw z.1))
    · rw [a3, nx_bit (by omega) (by omega), bP_1] at q
      rw [a3, a5, g2, nI_cl (by omega), h1 x a7] at e1
      subst e1
      rw [a8]
      refine ih (zs ++ [x]) _ e' (cFr_c hf (by simp)) (fun w hw => ?_)
      by_cases hgw : g w = g x
      · rw [hgw, zuI_v]
        have hh : oA p g (zs ++ [x]) w true := ⟨x, mem_snoc.mpr (Or.inr rfl), hgw.symm, q⟩
        rw [mo_1 hh]
        have e3 : oA p g zs x false ↔ oA p g zs w false := by unfold oA; rw [hgw]
        exact mo_c Iff.rfl (e3.trans (same w false (fun z => by rw [q] at z; exact absurd z.2 (by decide))))
      · rw [zuI_o hgw, h1 w hw]
        exact mo_c (same w true (fun z => hgw z.1)) (same w false (fun z => hgw z.1))
theorem lp_X4_markOwn_3 (hP : zPk P) (hsc : sc s l v) (hp : p < 8) (hS : cS s l I0 xs) (hg : cG v p I0 xs g)
    (kk : ∀ I, cFr [70] I0 I → (∀ w ∈ xs, I 70 (g w) = 0) → gw_X4_markOwn d Q 36 [some (.ref 23), some (.ref s), some (.int (nI p)), some (.ref (v + 2 + p)), some (.int 0), none] [] I L P) :
    ∀ ys zs I, xs = zs ++ ys → cFr [70] I0 I → (∀ w ∈ zs, I 70 (g w) = 0) →
      gw_X4_markOwn d Q 3 [some (.ref 23), some (.ref s), some (.int (nI p)), some (.ref (v + 2 + p)), some (.int (nI zs.length)), none] [] I L P := by
  obtain ⟨p1, p2, p3, p4⟩ := sc_P hsc hP
  obtain ⟨-, -, -, -, -, v6⟩ := vw_P (sc_v hsc) hP
  have hsc2 := hsc
  unfold sc at hsc2
  intro ys
  induction ys with
  | nil =>
    intro zs I e hf h1
    rw [List.append_nil] at e
    subst e
    have hS1 := cS_c hS (show I s 3 = I0 s 3 by rw [hf s (by simp only [List.mem_cons, List.not_mem_nil, or_false]; omega)]) (hf l (by simp only [List.mem_cons, List.not_mem_nil, or_false]; omega))
    exact g_X4_markOwn_3 hP ⟨p1, fun _ => kk I hf h1, fun q => absurd (cS_end hS1) q⟩
  | cons x ys ih =>
    intro zs I e hf h1
    have hS1 := cS_c hS (show I s 3 = I0 s 3 by rw [hf s (by simp only [List.mem_cons, List.not_mem_nil, or_false]; omega)]) (hf l (by simp only [List.mem_cons, List.not_mem_nil, or_false]; omega))
    obtain ⟨a1, a2, a3, a4, a5, a6, a7, a8, a9⟩ := cS_on hS1 e
    obtain ⟨g1, g2⟩ := cG_c hg (hf (v + 2 + p) (by simp only [List.mem_cons, List.not_mem_nil, or_false]; omega)) x a7
    refine g_X4_markOwn_3 hP ⟨p1, fun q => absurd q a1, fun _ => ⟨l, p2, 256, p3, a2, 256, (v6 p hp).2, by rw [a3]; exact a6, by rw [a3, a5, g2]; exact nx_in g1 (by decide), fun I1 e1 => ?_⟩⟩
    rw [a3, a5, g2, nI_cl (by omega)] at e1
    subst e1
    rw [a8]
    refine ih (zs ++ [x]) _ (by rw [e, List.append_assoc]; rfl) (cFr_c hf (by simp)) (fun w hw => ?_)
    by_cases hgw : g w = g x
    · rw [hgw, zuI_v]
    · rw [zuI_o hgw]
      rcases mem_snoc.mp hw with y | y
      · exact h1 w y
      · rw [y] at hgw; exact absurd rfl hgw
end MO
theorem sp_X4_markOwn {d : Nat} {I : zI} {L : zL} {P : zP} {s l v p : Nat} {xs : List Nat} {g : Nat → Nat} (hP : zPk P) (hsc : sc s l v) (hp : p < 8) (hS : cS s l I xs) (hg : cG v p I xs g) {K : zI → zL → zP → Prop}
    (kk : ∀ I', cFr [70] I I' → (∀ w ∈ xs, I' 70 (g w) = mo (oA p g xs w true) (oA p g xs w false)) → K I' L P) : zMv zm_X4_markOwn d [.ref 23, .ref s, .int (nI p), .ref (v + 2 + p)] I L P K := by
  have hsc2 := hsc
  unfold sc at hsc2
  have nn : ∀ w b, ¬ oA p g [] w b := by rintro w b ⟨u, hu, -⟩; simp at hu
  refine g_X4_markOwn hP (lp_X4_markOwn_3 hP hsc hp hS hg (fun I1 f1 f2 => ?_) xs [] I rfl (cFr_rf _ _) (fun w hw => absurd hw (by simp)))
  refine lp_X4_markOwn_36 hP hsc hp (I0 := I1) (cS_c hS (by rw [f1 s (by simp only [List.mem_cons, List.not_mem_nil, or_false]; omega)]) (f1 l (by simp only [List.mem_cons, List.not_mem_nil, or_false]; omega))) (cG_c hg (f1 (v + 2 + p) (by simp only [List.mem_cons, List.not_mem_nil, or_false]; omega))) (fun I2 f3 f4 => qv (kk I2 (cFr_tr f1 f3) f4)) xs [] I1 rfl (cFr_rf _ _) (fun w hw => ?_)
  rw [f2 w hw, mo_ff (nn _ _) (nn _ _)]
/-- in words of the reference: all of w's group have it, or have it not -/
theorem oA_has {N p w : Nat} {g : Nat → Nat → Nat} {xs : List Nat} {b : Bool} (hN : ∀ w ∈ xs, w < N) : ¬ oA p (g p) xs w (!b) ↔ sHas N (xo xs) (gk g p) p w b := by
  constructor
  · intro h u _ hu hg
    cases b <;> cases hb : u.testBit p <;> first | rfl | exact absurd ⟨u, hu, hg, hb⟩ h
  · rintro h ⟨u, hu, hg, hb⟩
    have := h u (hN u hu) hu hg
    rw [this] at hb
    cases b <;> cases hb
theorem mo_one {N p w : Nat} {g : Nat → Nat → Nat} {xs : List Nat} (hN : ∀ w ∈ xs, w < N) (hw : w ∈ xs) : (mo (oA p (g p) xs w true) (oA p (g p) xs w false) = 1 ↔ sHas N (xo xs) (gk g p) p w true) ∧ (mo (oA p (g p) xs w true) (oA p (g p) xs w false) = 2 ↔ sHas N (xo xs) (gk g p) p w false) := by
  have t := oA_has (N := N) (p := p) (w := w) (g := g) (xs := xs) (b := true) hN
  have f := oA_has (N := N) (p := p) (w := w) (g := g) (xs := xs) (b := false) hN
  have t : ¬ oA p (g p) xs w false ↔ _ := t
  have f : ¬ oA p (g p) xs w true ↔ _ := f
  rw [← t, ← f]
  by_cases ha : oA p (g p) xs w true <;> by_cases hb : oA p (g p) xs w false
  · rw [mo_tt ha hb]; exact ⟨⟨fun z => absurd z (by decide), fun z => absurd hb z⟩, ⟨fun z => absurd z (by decide), fun z => absurd ha z⟩⟩
  · rw [mo_tf ha hb]; exact ⟨⟨fun _ => hb, fun _ => rfl⟩, ⟨fun z => absurd z (by decide), fun z => absurd ha z⟩⟩
  · rw [mo_ft ha hb]; exact ⟨⟨fun z => absurd z (by decide), fun z => absurd hb z⟩, ⟨fun _ => ha, fun _ => rfl⟩⟩
  · cases hc : w.testBit p
    · exact absurd ⟨w, hw, rfl, hc⟩ hb
    · exact absurd ⟨w, hw, rfl, hc⟩ ha
abbrev gw_X4_ownMark (d : Nat) (Q : zQt) (pc : Nat) (lv : zV) (st : List Value) (I : zI) (L : zL) (P : zP) : Prop := zW zm_X4_ownMark (zRm d 0 0) 0 0 Q pc lv st I L P 205 0 0
abbrev v_X4_ownMark (d : Nat) (Q : zQt) (p1 : Nat) (p2 : Int32) (I : zI) (L : zL) (P : zP) : Prop :=
  (p1 < 205 ∧ (zsh p1).1 = 5) ∧
  ∃ b2 : Nat, P p1 0 = some b2 ∧
  (b2 < 205 ∧ (zsh b2).1 = 9) ∧
  vw b2 ∧
  vp_in p2 8 ∧
  zMv zm_X4_markOwn d [.ref 23, .ref p1, .int p2, .ref (b2 + 2 + (p2 : Int32).toNatClampNeg)] I L P (fun I9 L10 P11 =>
    zPk P11 ∧
    ∃ b15 : Nat, P11 p1 1 = some b15 ∧
    (b15 < 205 ∧ (zsh b15).1 = 2) ∧
    ∃ n19, (b2 + 2 + (p2 : Int32).toNatClampNeg < 205 ∧ zsh (b2 + 2 + (p2 : Int32).toNatClampNeg) = (100, n19)) ∧
    vp_in (I9 b15 1) n19 ∧
    vp_in (I9 (b2 + 2 + (p2 : Int32).toNatClampNeg) (I9 b15 1).toNatClampNeg) 256 ∧
    ((I9 70 (I9 (b2 + 2 + (p2 : Int32).toNatClampNeg) (I9 b15 1).toNatClampNeg).toNatClampNeg) = 1 →
      Q (some (.int 1)) I9 L10 P11 205
    ) ∧
    ((I9 70 (I9 (b2 + 2 + (p2 : Int32).toNatClampNeg) (I9 b15 1).toNatClampNeg).toNatClampNeg) = 2 →
      Q (some (.int 0)) I9 L10 P11 205
    ) ∧
    (¬ (I9 70 (I9 (b2 + 2 + (p2 : Int32).toNatClampNeg) (I9 b15 1).toNatClampNeg).toNatClampNeg) = 1 → ¬ (I9 70 (I9 (b2 + 2 + (p2 : Int32).toNatClampNeg) (I9 b15 1).toNatClampNeg).toNatClampNeg) = 2 →
      Q (some (.int (-2))) I9 L10 P11 205
    )
  )
set_option maxRecDepth 20000 in
theorem g_X4_ownMark {d : Nat} {Q : zQt} {p1 : Nat} {p2 : Int32} {I : zI} {L : zL} {P : zP} (hP : zPk P) (hv : v_X4_ownMark d Q p1 p2 I L P) : zM zm_X4_ownMark (d + 1) 0 0 [.ref 23, .ref p1, .int p2] I L P 205 Q := by
  unfold v_X4_ownMark at hv
  refine zM_of (lv0 := [some (.ref 23), some (.ref p1), some (.int p2), none]) (by decide +kernel) (Nat.le_of_ble_eq_true rfl) rfl ?_
  refine z_aload_n dX4_ownMark_0 rfl ?_
  obtain ⟨h1, hv⟩ := hv
  obtain ⟨b2, h3, hv⟩ := hv
  refine z_getP dX4_ownMark_1 zf_X4_117 h1.1 h1.2 (fun _ _ _ _ _ => rfl) h3 ?_
  refine z_iload_n dX4_ownMark_4 rfl ?_
  obtain ⟨h4, hv⟩ := hv
  obtain ⟨h5, hv⟩ := hv
  obtain ⟨h6, hv⟩ := hv
  refine z_callV (As := [.int p2]) (st := []) dX4_ownMark_5 zl_X4_121 zv_X10_of (by decide) rfl h4.1 h4.2 rfl rfl (Nat.le_of_ble_eq_true rfl) ⟨Nat.le_refl _, Nat.le_refl _⟩ ⟨Nat.le_refl _, Nat.le_refl _⟩ (sp_X10_of hP h5 h6 (K := fun r I' L' P' => b2 + 2 + (p2 : Int32).toNatClampNeg = r ∧ I = I' ∧ L = L' ∧ P = P') ⟨rfl, rfl, rfl, rfl⟩) (fun v1 I2 L2 P2 nx1 q8 => ?_)
  obtain ⟨rfl, r7, rfl, rfl, rfl, rfl, rfl⟩ := q8
  refine z_astore_n (lv2 := [some (.ref 23), some (.ref p1), some (.int p2), some (.ref (b2 + 2 + (p2 : Int32).toNatClampNeg))]) dX4_ownMark_8 (by decide) rfl rfl ?_
  refine z_aload_n dX4_ownMark_9 rfl ?_
  refine z_aload_n dX4_ownMark_10 rfl ?_
  refine z_iload_n dX4_ownMark_11 rfl ?_
  refine z_aload_n dX4_ownMark_12 rfl ?_
  refine z_callV (As := [.ref p1, .int p2, .ref (b2 + 2 + (p2 : Int32).toNatClampNeg)]) (st := []) dX4_ownMark_13 zl_X4_165 zv_X4_markOwn (by decide) rfl zn_23 zo_23 rfl rfl (Nat.le_of_ble_eq_true rfl) ⟨Nat.le_refl _, Nat.le_refl _⟩ ⟨Nat.le_refl _, Nat.le_refl _⟩ hv (fun v1 I9 L10 P11 nx1 q12 => ?_)
  obtain ⟨rfl, rfl, hv⟩ := q12
  refine z_aload_n dX4_ownMark_16 rfl ?_
  obtain ⟨h14, hv⟩ := hv
  refine z_getP dX4_ownMark_17 zf_X4_22 zn_23 zo_23 (fun _ _ _ _ _ => rfl) (h14 23 2 70 zp_23_2) ?_
  refine z_aload_n dX4_ownMark_20 rfl ?_
  refine z_aload_n dX4_ownMark_21 rfl ?_
  obtain ⟨b15, h16, hv⟩ := hv
  refine z_getP dX4_ownMark_22 zf_X4_35 h1.1 h1.2 (fun _ _ _ _ _ => rfl) h16 ?_
  obtain ⟨h17, hv⟩ := hv
  refine z_getI dX4_ownMark_25 zf_X4_162 h17.1 h17.2 (fun _ _ _ _ _ => rfl) ?_
  obtain ⟨n19, h18, hv⟩ := hv
  obtain ⟨h20, hv⟩ := hv
  refine z_iaload dX4_ownMark_28 h18.1 h18.2 h20 ?_
  obtain ⟨h21, hv⟩ := hv
  refine z_iaload dX4_ownMark_29 zn_70 zh_70 h21 ?_
  by_cases q22 : (I9 70 (I9 (b2 + 2 + (p2 : Int32).toNatClampNeg) (I9 b15 1).toNatClampNeg).toNatClampNeg) = 1
  · have hv := hv.1 q22
    refine z_lookup (off := 26) (tgt := 56) dX4_ownMark_30 (by decide) (by rw [q22]; decide) (by decide) ?_
    refine z_iconst (v := 1) dX4_ownMark_56 (by decide) ?_
    exact z_ireturn dX4_ownMark_57 rfl rfl (Nat.le_refl _) (Nat.le_refl _) hv
  by_cases q23 : (I9 70 (I9 (b2 + 2 + (p2 : Int32).toNatClampNeg) (I9 b15 1).toNatClampNeg).toNatClampNeg) = 2
  · have hv := hv.2.1 q23
    refine z_lookup (off := 28) (tgt := 58) dX4_ownMark_30 (by decide) (by rw [q23]; decide) (by decide) ?_
    refine z_iconst (v := 0) dX4_ownMark_58 (by decide) ?_
    exact z_ireturn dX4_ownMark_59 rfl rfl (Nat.le_refl _) (Nat.le_refl _) hv
  have hv := hv.2.2 q22 q23
  refine z_lookup (off := 30) (tgt := 60) dX4_ownMark_30 (by decide) ((lv_osw q22 (by decide)).trans ((lv_osw q23 (by decide)).trans rfl)) (by decide) ?_
  refine z_bipush (v := (-2)) dX4_ownMark_60 (by decide) ?_
  exact z_ireturn dX4_ownMark_62 rfl rfl (Nat.le_refl _) (Nat.le_refl _) hv
theorem sp_X4_ownMark {d : Nat} {I : zI} {L : zL} {P : zP} {s l v p t tw N : Nat} {xs : List Nat} {g : Nat → Nat → Nat} (hP : zPk P) (hsc : sc s l v) (hp : p < 8) (hS : cS s l I xs) (hN : ∀ w ∈ xs, w < N) (hg : cG v p I xs (g p)) (ht : P s 1 = some t) (hi : il t) (hm : I t 1 = nI tw) (hw : tw ∈ xs) (hd : 1 ≤ d) {K : Int32 → zI → zL → zP → Prop}
    (kk : ∀ I', cFr [70] I I' → K (sOw N (xo xs) (gk g) tw p) I' L P) : zMi zm_X4_ownMark d [.ref 23, .ref s, .int (nI p)] I L P K := by
  obtain ⟨d, rfl⟩ : ∃ e, d = e + 1 := ⟨d - 1, by omega⟩
  obtain ⟨p1, p2, p3, p4⟩ := sc_P hsc hP
  obtain ⟨v1, -, -, -, -, v6⟩ := vw_P (sc_v hsc) hP
  have b1 := (il_P hi hP).1
  have hsc2 := hsc
  unfold sc at hsc2
  have hi2 := hi
  unfold il at hi2
  have h256 := hS.2.2.1 tw hw
  refine g_X4_ownMark hP ?_
  unfold v_X4_ownMark
  rw [nI_cl (show p < 2 ^ 31 by omega)]
  refine ⟨p1, v, p4, v1, sc_v hsc, nx_in hp (by decide), sp_X4_markOwn hP hsc hp hS hg (fun I1 f1 f2 => ?_)⟩
  have em : I1 t 1 = nI tw := by rw [f1 t (by simp only [List.mem_cons, List.not_mem_nil, or_false]; omega)]; exact hm
  obtain ⟨g1, g2⟩ := cG_c hg (f1 (v + 2 + p) (by simp only [List.mem_cons, List.not_mem_nil, or_false]; omega)) tw hw
  have ek : I1 70 (I1 (v + 2 + p) (I1 t 1).toNatClampNeg).toNatClampNeg = mo (oA p (g p) xs tw true) (oA p (g p) xs tw false) := by
    rw [em, nI_cl (by omega), g2, nI_cl (by omega)]; exact f2 tw hw
  have mm := mo_one (N := N) (p := p) (g := g) hN hw
  refine ⟨hP, t, ht, b1, 256, (v6 p hp).2, by rw [em]; exact nx_in h256 (by decide), by rw [em, nI_cl (by omega), g2]; exact nx_in g1 (by decide), ?_, ?_, ?_⟩
  · intro q
    rw [ek, mm.1] at q
    have := kk I1 f1
    unfold sOw at this
    rw [if_pos q] at this
    exact qi this
  · intro q
    rw [ek] at q
    have n1 : ¬ sHas N (xo xs) (gk g p) p tw true := fun z => by rw [← mm.1, q] at z; exact absurd z (by decide)
    rw [mm.2] at q
    have := kk I1 f1
    unfold sOw at this
    rw [if_neg n1, if_pos q] at this
    exact qi this
  · intro q1 q2
    rw [ek, mm.1] at q1
    rw [ek, mm.2] at q2
    have := kk I1 f1
    unfold sOw at this
    rw [if_neg q1, if_neg q2] at this
    exact qi this
abbrev gw_X4_findGoers (d : Nat) (Q : zQt) (pc : Nat) (lv : zV) (st : List Value) (I : zI) (L : zL) (P : zP) : Prop := zW zm_X4_findGoers (zRm d 0 0) 0 0 Q pc lv st I L P 205 0 0
abbrev v_X4_findGoers_67 (d : Nat) (Q : zQt) (p1 : Nat) (x2 : Int32) (x3 : Int32) (x4 : Nat) (x5 : Int32) (I : zI) (L : zL) (P : zP) : Prop :=
  (p1 < 205 ∧ (zsh p1).1 = 5) ∧
  (((I p1 3) ≤ x5 →
    gw_X4_findGoers (d + 1) Q 23 [some (.ref 23), some (.ref p1), some (.int x2), some (.int (x3 + 1)), none, none, none, none] [] I L P
  ) ∧ (¬ (I p1 3) ≤ x5 →
    ∃ b30 : Nat, P p1 2 = some b30 ∧
    ∃ n33, (b30 < 205 ∧ zsh b30 = (100, n33)) ∧
    vp_in x5 n33 ∧
    ∃ n36, (x4 < 205 ∧ zsh x4 = (100, n36)) ∧
    vp_in (I b30 x5.toNatClampNeg) n36 ∧
    vp_in (I x4 (I b30 x5.toNatClampNeg).toNatClampNeg) 256 ∧
    (((I 70 (I x4 (I b30 x5.toNatClampNeg).toNatClampNeg).toNatClampNeg) = 1 →
      vp_in (I b30 x5.toNatClampNeg) 256 ∧
      ∀ I42 : zI, I42 = zuI I 72 (I b30 x5.toNatClampNeg).toNatClampNeg ((I 72 (I b30 x5.toNatClampNeg).toNatClampNeg) ||| ((1 : Int32) <<< (x3 &&& 31) : Int32) : Int32) →
      gw_X4_findGoers (d + 1) Q 67 [some (.ref 23), some (.ref p1), some (.int x2), some (.int x3), some (.ref x4), some (.int (x5 + 1)), none, none] [] I42 L P
    ) ∧ (¬ (I 70 (I x4 (I b30 x5.toNatClampNeg).toNatClampNeg).toNatClampNeg) = 1 →
      ((¬ (I 70 (I x4 (I b30 x5.toNatClampNeg).toNatClampNeg).toNatClampNeg) = 2 →
        gw_X4_findGoers (d + 1) Q 67 [some (.ref 23), some (.ref p1), some (.int x2), some (.int x3), some (.ref x4), some (.int (x5 + 1)), none, none] [] I L P
      ) ∧ ((I 70 (I x4 (I b30 x5.toNatClampNeg).toNatClampNeg).toNatClampNeg) = 2 →
        ∃ b44 : Nat, P p1 1 = some b44 ∧
        (b44 < 205 ∧ (zsh b44).1 = 2) ∧
        (((I b44 7) = 0 →
          gw_X4_findGoers (d + 1) Q 67 [some (.ref 23), some (.ref p1), some (.int x2), some (.int x3), some (.ref x4), some (.int (x5 + 1)), none, none] [] I L P
        ) ∧ (¬ (I b44 7) = 0 →
          vp_in (I b30 x5.toNatClampNeg) 256 ∧
          ∀ I50 : zI, I50 = zuI I 72 (I b30 x5.toNatClampNeg).toNatClampNeg ((I 72 (I b30 x5.toNatClampNeg).toNatClampNeg) ||| ((1 : Int32) <<< (x3 &&& 31) : Int32) : Int32) →
          gw_X4_findGoers (d + 1) Q 67 [some (.ref 23), some (.ref p1), some (.int x2), some (.int x3), some (.ref x4), some (.int (x5 + 1)), none, none] [] I50 L P
        ))
      ))
    ))
  ))
set_option maxRecDepth 20000 in
theorem g_X4_findGoers_67 {d : Nat} {Q : zQt} {p1 : Nat} {x2 : Int32} {x3 : Int32} {x4 : Nat} {x5 : Int32} {I : zI} {L : zL} {P : zP} (hP : zPk P) (hv : v_X4_findGoers_67 d Q p1 x2 x3 x4 x5 I L P) : gw_X4_findGoers (d + 1) Q 67 [some (.ref 23), some (.ref p1), some (.int x2), some (.int x3), some (.ref x4), some (.int x5), none, none] [] I L P := by
  unfold v_X4_findGoers_67 at hv
  refine z_iload dX4_findGoers_67 rfl ?_
  refine z_aload_n dX4_findGoers_69 rfl ?_
  obtain ⟨h28, hv⟩ := hv
  refine z_getI dX4_findGoers_70 zf_X4_95 h28.1 h28.2 (fun _ _ _ _ _ => rfl) ?_
  refine z_icmp_ge (tgt := 138) dX4_findGoers_73 (by decide) (fun q29 => ?_) (fun q29 => ?_)
  · have hv := hv.1 q29
    refine z_iinc (v2 := x3 + 1) (lv2 := [some (.ref 23), some (.ref p1), some (.int x2), some (.int (x3 + 1)), some (.ref x4), some (.int x5), none, none]) dX4_findGoers_138 rfl (by rfl) (by decide) rfl rfl ?_
    refine z_goto (tgt := 23) dX4_findGoers_141 (by decide) ?_
    exact z_sub (by exact ⟨rfl, ⟨rfl, ⟨rfl, ⟨rfl, trivial⟩⟩⟩⟩) hv
  · have hv := hv.2 q29
    refine z_aload_n dX4_findGoers_76 rfl ?_
    obtain ⟨b30, h31, hv⟩ := hv
    refine z_getP dX4_findGoers_77 zf_X4_98 h28.1 h28.2 (fun _ _ _ _ _ => rfl) h31 ?_
    refine z_iload dX4_findGoers_80 rfl ?_
    obtain ⟨n33, h32, hv⟩ := hv
    obtain ⟨h34, hv⟩ := hv
    refine z_iaload dX4_findGoers_82 h32.1 h32.2 h34 ?_
    refine z_istore (lv2 := [some (.ref 23), some (.ref p1), some (.int x2), some (.int x3), some (.ref x4), some (.int x5), some (.int (I b30 x5.toNatClampNeg)), none]) dX4_findGoers_83 (by decide) rfl rfl ?_
    refine z_aload_n dX4_findGoers_85 rfl ?_
    refine z_getP dX4_findGoers_86 zf_X4_22 zn_23 zo_23 (fun _ _ _ _ _ => rfl) (hP 23 2 70 zp_23_2) ?_
    refine z_aload dX4_findGoers_89 rfl ?_
    refine z_iload dX4_findGoers_91 rfl ?_
    obtain ⟨n36, h35, hv⟩ := hv
    obtain ⟨h37, hv⟩ := hv
    refine z_iaload dX4_findGoers_93 h35.1 h35.2 h37 ?_
    obtain ⟨h38, hv⟩ := hv
    refine z_iaload dX4_findGoers_94 zn_70 zh_70 h38 ?_
    refine z_istore (lv2 := [some (.ref 23), some (.ref p1), some (.int x2), some (.int x3), some (.ref x4), some (.int x5), some (.int (I b30 x5.toNatClampNeg)), some (.int (I 70 (I x4 (I b30 x5.toNatClampNeg).toNatClampNeg).toNatClampNeg))]) dX4_findGoers_95 (by decide) rfl rfl ?_
    refine z_iload dX4_findGoers_97 rfl ?_
    refine z_iconst (v := 1) dX4_findGoers_99 (by decide) ?_
    refine z_icmp_eq (tgt := 119) dX4_findGoers_100 (by decide) (fun q39 => ?_) (fun q39 => ?_)
    · have hv := hv.1 q39
      refine z_aload_n dX4_findGoers_119 rfl ?_
      refine z_getP dX4_findGoers_120 zf_X4_28 zn_23 zo_23 (fun _ _ _ _ _ => rfl) (hP 23 4 72 zp_23_4) ?_
      refine z_iload dX4_findGoers_123 rfl ?_
      refine z_dup2 dX4_findGoers_125 rfl rfl ?_
      obtain ⟨h40, hv⟩ := hv
      refine z_iaload dX4_findGoers_126 zn_72 zh_72 h40 ?_
      refine z_iconst (v := 1) dX4_findGoers_127 (by decide) ?_
      refine z_iload_n dX4_findGoers_128 rfl ?_
      refine z_ishl dX4_findGoers_129 ?_
      refine z_ior dX4_findGoers_130 ?_
      refine z_iastore dX4_findGoers_131 zn_72 zh_72 h40 (z_nmI (fun I42 e41 => ?_))
      have hv := hv I42 e41
      refine z_iinc (v2 := x5 + 1) (lv2 := [some (.ref 23), some (.ref p1), some (.int x2), some (.int x3), some (.ref x4), some (.int (x5 + 1)), some (.int (I b30 x5.toNatClampNeg)), some (.int (I 70 (I x4 (I b30 x5.toNatClampNeg).toNatClampNeg).toNatClampNeg))]) dX4_findGoers_132 rfl (by rfl) (by decide) rfl rfl ?_
      refine z_goto (tgt := 67) dX4_findGoers_135 (by decide) ?_
      exact z_sub (by exact ⟨rfl, ⟨rfl, ⟨rfl, ⟨rfl, ⟨rfl, ⟨rfl, trivial⟩⟩⟩⟩⟩⟩) hv
    · have hv := hv.2 q39
      refine z_iload dX4_findGoers_103 rfl ?_
      refine z_iconst (v := 2) dX4_findGoers_105 (by decide) ?_
      refine z_icmp_ne (tgt := 132) dX4_findGoers_106 (by decide) (fun q43 => ?_) (fun q43 => ?_)
      · have hv := hv.1 q43
        refine z_iinc (v2 := x5 + 1) (lv2 := [some (.ref 23), some (.ref p1), some (.int x2), some (.int x3), some (.ref x4), some (.int (x5 + 1)), some (.int (I b30 x5.toNatClampNeg)), some (.int (I 70 (I x4 (I b30 x5.toNatClampNeg).toNatClampNeg).toNatClampNeg))]) dX4_findGoers_132 rfl (by rfl) (by decide) rfl rfl ?_
        refine z_goto (tgt := 67) dX4_findGoers_135 (by decide) ?_
        exact z_sub (by exact ⟨rfl, ⟨rfl, ⟨rfl, ⟨rfl, ⟨rfl, ⟨rfl, trivial⟩⟩⟩⟩⟩⟩) hv
      · have hv := hv.2 q43
        refine z_aload_n dX4_findGoers_109 rfl ?_
        obtain ⟨b44, h45, hv⟩ := hv
        refine z_getP dX4_findGoers_110 zf_X4_35 h28.1 h28.2 (fun _ _ _ _ _ => rfl) h45 ?_
        obtain ⟨h46, hv⟩ := hv
        refine z_getI dX4_findGoers_113 zf_X4_171 h46.1 h46.2 (fun _ _ _ _ _ => rfl) ?_
        refine z_if_eq (tgt := 132) dX4_findGoers_116 (by decide) (fun q47 => ?_) (fun q47 => ?_)
        · have hv := hv.1 q47
          refine z_iinc (v2 := x5 + 1) (lv2 := [some (.ref 23), some (.ref p1), some (.int x2), some (.int x3), some (.ref x4), some (.int (x5 + 1)), some (.int (I b30 x5.toNatClampNeg)), some (.int (I 70 (I x4 (I b30 x5.toNatClampNeg).toNatClampNeg).toNatClampNeg))]) dX4_findGoers_132 rfl (by rfl) (by decide) rfl rfl ?_
          refine z_goto (tgt := 67) dX4_findGoers_135 (by decide) ?_
          exact z_sub (by exact ⟨rfl, ⟨rfl, ⟨rfl, ⟨rfl, ⟨rfl, ⟨rfl, trivial⟩⟩⟩⟩⟩⟩) hv
        · have hv := hv.2 q47
          refine z_aload_n dX4_findGoers_119 rfl ?_
          refine z_getP dX4_findGoers_120 zf_X4_28 zn_23 zo_23 (fun _ _ _ _ _ => rfl) (hP 23 4 72 zp_23_4) ?_
          refine z_iload dX4_findGoers_123 rfl ?_
          refine z_dup2 dX4_findGoers_125 rfl rfl ?_
          obtain ⟨h48, hv⟩ := hv
          refine z_iaload dX4_findGoers_126 zn_72 zh_72 h48 ?_
          refine z_iconst (v := 1) dX4_findGoers_127 (by decide) ?_
          refine z_iload_n dX4_findGoers_128 rfl ?_
          refine z_ishl dX4_findGoers_129 ?_
          refine z_ior dX4_findGoers_130 ?_
          refine z_iastore dX4_findGoers_131 zn_72 zh_72 h48 (z_nmI (fun I50 e49 => ?_))
          have hv := hv I50 e49
          refine z_iinc (v2 := x5 + 1) (lv2 := [some (.ref 23), some (.ref p1), some (.int x2), some (.int x3), some (.ref x4), some (.int (x5 + 1)), some (.int (I b30 x5.toNatClampNeg)), some (.int (I 70 (I x4 (I b30 x5.toNatClampNeg).toNatClampNeg).toNatClampNeg))]) dX4_findGoers_132 rfl (by rfl) (by decide) rfl rfl ?_
          refine z_goto (tgt := 67) dX4_findGoers_135 (by decide) ?_
          exact z_sub (by exact ⟨rfl, ⟨rfl, ⟨rfl, ⟨rfl, ⟨rfl, ⟨rfl, trivial⟩⟩⟩⟩⟩⟩) hv
abbrev v_X4_findGoers_23 (d : Nat) (Q : zQt) (p1 : Nat) (x2 : Int32) (x3 : Int32) (I : zI) (L : zL) (P : zP) : Prop :=
  (p1 < 205 ∧ (zsh p1).1 = 5) ∧
  ∃ b11 : Nat, P p1 1 = some b11 ∧
  (b11 < 205 ∧ (zsh b11).1 = 2) ∧
  (((I b11 0) ≤ x3 →
    Q (some (.ref 72)) I L P 205
  ) ∧ (¬ (I b11 0) ≤ x3 →
    ((¬ ((x2 >>> (x3 &&& 31) : Int32) &&& 1 : Int32) = 1 →
      ∃ b16 : Nat, P p1 0 = some b16 ∧
      (b16 < 205 ∧ (zsh b16).1 = 9) ∧
      vw b16 ∧
      vp_in x3 8 ∧
      zMv zm_X4_markOwn d [.ref 23, .ref p1, .int x3, .ref (b16 + 2 + (x3 : Int32).toNatClampNeg)] I L P (fun I23 L24 P25 =>
        gw_X4_findGoers (d + 1) Q 67 [some (.ref 23), some (.ref p1), some (.int x2), some (.int x3), some (.ref (b16 + 2 + (x3 : Int32).toNatClampNeg)), some (.int 0), none, none] [] I23 L24 P25
      )
    ) ∧ (((x2 >>> (x3 &&& 31) : Int32) &&& 1 : Int32) = 1 →
      gw_X4_findGoers (d + 1) Q 23 [some (.ref 23), some (.ref p1), some (.int x2), some (.int (x3 + 1)), none, none, none, none] [] I L P
    ))
  ))
set_option maxRecDepth 20000 in
theorem g_X4_findGoers_23 {d : Nat} {Q : zQt} {p1 : Nat} {x2 : Int32} {x3 : Int32} {I : zI} {L : zL} {P : zP} (hP : zPk P) (hv : v_X4_findGoers_23 d Q p1 x2 x3 I L P) : gw_X4_findGoers (d + 1) Q 23 [some (.ref 23), some (.ref p1), some (.int x2), some (.int x3), none, none, none, none] [] I L P := by
  unfold v_X4_findGoers_23 at hv
  refine z_iload_n dX4_findGoers_23 rfl ?_
  refine z_aload_n dX4_findGoers_24 rfl ?_
  obtain ⟨h10, hv⟩ := hv
  obtain ⟨b11, h12, hv⟩ := hv
  refine z_getP dX4_findGoers_25 zf_X4_35 h10.1 h10.2 (fun _ _ _ _ _ => rfl) h12 ?_
  obtain ⟨h13, hv⟩ := hv
  refine z_getI dX4_findGoers_28 zf_X4_137 h13.1 h13.2 (fun _ _ _ _ _ => rfl) ?_
  refine z_icmp_ge (tgt := 144) dX4_findGoers_31 (by decide) (fun q14 => ?_) (fun q14 => ?_)
  · have hv := hv.1 q14
    refine z_aload_n dX4_findGoers_144 rfl ?_
    refine z_getP dX4_findGoers_145 zf_X4_28 zn_23 zo_23 (fun _ _ _ _ _ => rfl) (hP 23 4 72 zp_23_4) ?_
    exact z_areturn dX4_findGoers_148 rfl (Nat.le_refl _) (Nat.le_refl _) hv
  · have hv := hv.2 q14
    refine z_iload_n dX4_findGoers_34 rfl ?_
    refine z_iload_n dX4_findGoers_35 rfl ?_
    refine z_ishr dX4_findGoers_36 ?_
    refine z_iconst (v := 1) dX4_findGoers_37 (by decide) ?_
    refine z_iand dX4_findGoers_38 ?_
    refine z_iconst (v := 1) dX4_findGoers_39 (by decide) ?_
    refine z_icmp_ne (tgt := 46) dX4_findGoers_40 (by decide) (fun q15 => ?_) (fun q15 => ?_)
    · have hv := hv.1 q15
      refine z_aload_n dX4_findGoers_46 rfl ?_
      obtain ⟨b16, h17, hv⟩ := hv
      refine z_getP dX4_findGoers_47 zf_X4_117 h10.1 h10.2 (fun _ _ _ _ _ => rfl) h17 ?_
      refine z_iload_n dX4_findGoers_50 rfl ?_
      obtain ⟨h18, hv⟩ := hv
      obtain ⟨h19, hv⟩ := hv
      obtain ⟨h20, hv⟩ := hv
      refine z_callV (As := [.int x3]) (st := []) dX4_findGoers_51 zl_X4_121 zv_X10_of (by decide) rfl h18.1 h18.2 rfl rfl (Nat.le_of_ble_eq_true rfl) ⟨Nat.le_refl _, Nat.le_refl _⟩ ⟨Nat.le_refl _, Nat.le_refl _⟩ (sp_X10_of hP h19 h20 (K := fun r I' L' P' => b16 + 2 + (x3 : Int32).toNatClampNeg = r ∧ I = I' ∧ L = L' ∧ P = P') ⟨rfl, rfl, rfl, rfl⟩) (fun v1 I2 L2 P2 nx1 q22 => ?_)
      obtain ⟨rfl, r21, rfl, rfl, rfl, rfl, rfl⟩ := q22
      refine z_astore (lv2 := [some (.ref 23), some (.ref p1), some (.int x2), some (.int x3), some (.ref (b16 + 2 + (x3 : Int32).toNatClampNeg)), none, none, none]) dX4_findGoers_54 (by decide) rfl rfl ?_
      refine z_aload_n dX4_findGoers_56 rfl ?_
      refine z_aload_n dX4_findGoers_57 rfl ?_
      refine z_iload_n dX4_findGoers_58 rfl ?_
      refine z_aload dX4_findGoers_59 rfl ?_
      refine z_callV (As := [.ref p1, .int x3, .ref (b16 + 2 + (x3 : Int32).toNatClampNeg)]) (st := []) dX4_findGoers_61 zl_X4_165 zv_X4_markOwn (by decide) rfl zn_23 zo_23 rfl rfl (Nat.le_of_ble_eq_true rfl) ⟨Nat.le_refl _, Nat.le_refl _⟩ ⟨Nat.le_refl _, Nat.le_refl _⟩ hv (fun v1 I23 L24 P25 nx1 q26 => ?_)
      obtain ⟨rfl, rfl, hv⟩ := q26
      refine z_iconst (v := 0) dX4_findGoers_64 (by decide) ?_
      refine z_istore (lv2 := [some (.ref 23), some (.ref p1), some (.int x2), some (.int x3), some (.ref (b16 + 2 + (x3 : Int32).toNatClampNeg)), some (.int 0), none, none]) dX4_findGoers_65 (by decide) rfl rfl ?_
      exact hv
    · have hv := hv.2 q15
      refine z_goto (tgt := 138) dX4_findGoers_43 (by decide) ?_
      refine z_iinc (v2 := x3 + 1) (lv2 := [some (.ref 23), some (.ref p1), some (.int x2), some (.int (x3 + 1)), none, none, none, none]) dX4_findGoers_138 rfl (by rfl) (by decide) rfl rfl ?_
      refine z_goto (tgt := 23) dX4_findGoers_141 (by decide) ?_
      exact hv
abbrev v_X4_findGoers (d : Nat) (Q : zQt) (p1 : Nat) (I : zI) (L : zL) (P : zP) : Prop :=
  zMv zm_J7_fill_53178 d [.ref 72, .int 0] I L P (fun I1 L2 P3 =>
    (p1 < 205 ∧ (zsh p1).1 = 5) ∧
    ∃ b7 : Nat, P3 p1 1 = some b7 ∧
    (b7 < 205 ∧ (zsh b7).1 = 2) ∧
    gw_X4_findGoers (d + 1) Q 23 [some (.ref 23), some (.ref p1), some (.int ((I1 p1 4) ||| (I1 b7 2) : Int32)), some (.int 0), none, none, none, none] [] I1 L2 P3
  )
set_option maxRecDepth 20000 in
theorem g_X4_findGoers {d : Nat} {Q : zQt} {p1 : Nat} {I : zI} {L : zL} {P : zP} (hP : zPk P) (hv : v_X4_findGoers d Q p1 I L P) : zM zm_X4_findGoers (d + 1) 0 0 [.ref 23, .ref p1] I L P 205 Q := by
  unfold v_X4_findGoers at hv
  refine zM_of (lv0 := [some (.ref 23), some (.ref p1), none, none, none, none, none, none]) (by decide +kernel) (Nat.le_of_ble_eq_true rfl) rfl ?_
  refine z_aload_n dX4_findGoers_0 rfl ?_
  refine z_getP dX4_findGoers_1 zf_X4_28 zn_23 zo_23 (fun _ _ _ _ _ => rfl) (hP 23 4 72 zp_23_4) ?_
  refine z_iconst (v := 0) dX4_findGoers_4 (by decide) ?_
  refine z_callS (As := [.ref 72, .int 0]) (st := []) dX4_findGoers_5 zl_X4_131 zs_J7_fill_53178 rfl rfl (Nat.le_of_ble_eq_true rfl) ⟨Nat.le_refl _, Nat.le_refl _⟩ ⟨Nat.le_refl _, Nat.le_refl _⟩ hv (fun v1 I1 L2 P3 nx1 q4 => ?_)
  obtain ⟨rfl, rfl, hv⟩ := q4
  refine z_aload_n dX4_findGoers_8 rfl ?_
  obtain ⟨h6, hv⟩ := hv
  refine z_getI dX4_findGoers_9 zf_X4_101 h6.1 h6.2 (fun _ _ _ _ _ => rfl) ?_
  refine z_aload_n dX4_findGoers_12 rfl ?_
  obtain ⟨b7, h8, hv⟩ := hv
  refine z_getP dX4_findGoers_13 zf_X4_35 h6.1 h6.2 (fun _ _ _ _ _ => rfl) h8 ?_
  obtain ⟨h9, hv⟩ := hv
  refine z_getI dX4_findGoers_16 zf_X4_168 h9.1 h9.2 (fun _ _ _ _ _ => rfl) ?_
  refine z_ior dX4_findGoers_19 ?_
  refine z_istore_n (lv2 := [some (.ref 23), some (.ref p1), some (.int ((I1 p1 4) ||| (I1 b7 2) : Int32)), none, none, none, none, none]) dX4_findGoers_20 (by decide) rfl rfl ?_
  refine z_iconst (v := 0) dX4_findGoers_21 (by decide) ?_
  refine z_istore_n (lv2 := [some (.ref 23), some (.ref p1), some (.int ((I1 p1 4) ||| (I1 b7 2) : Int32)), some (.int 0), none, none, none, none]) dX4_findGoers_22 (by decide) rfl rfl ?_
  exact hv
/-- the law of the island t, who stays there -/
def iLw (t : Nat) (I : zI) (own : Prop) (st : Nat) : Prop := I t 2 = nI st ∧ st < 256 ∧ (¬ I t 7 = 0 ↔ own)
theorem iLw_c {t st : Nat} {I I' : zI} {own : Prop} (h : iLw t I own st) (e : I' t = I t) : iLw t I' own st := by unfold iLw; rw [e]; exact h
def cGo (N : Nat) (xs : List Nat) (g : Nat → Nat → Nat) (own : Prop) (fx w p : Nat) : Prop := ¬ fx.testBit p = true ∧ (sHas N (xo xs) (gk g p) p w true ∨ (sHas N (xo xs) (gk g p) p w false ∧ own))
section FG
variable {d : Nat} {Q : zQt} {I0 : zI} {L : zL} {P : zP} {s l v p t np N fx st : Nat} {own : Prop} {xs : List Nat} {g : Nat → Nat → Nat}
theorem bset_or {f : Nat → Prop} {p : Nat} (hp : p < 31) (h : f p) : (nI (bset f p) ||| ((1 : Int32) <<< (nI p &&& 31) : Int32) : Int32) = nI (bset f (p + 1)) := by
  have h2 : 2 ^ p < 2 ^ 32 := Nat.pow_lt_pow_right (by decide) (by omega)
  rw [show (1 : Int32) = nI 1 from rfl, nx_shl (by omega) (by omega), Nat.one_mul, nx_or, bset_t h]
theorem lp_X4_findGoers_67 (hP : zPk P) (hsc : sc s l v) (hp : p < 8) (hS : cS s l I0 xs) (hd : xs.Nodup) (hN : ∀ w ∈ xs, w < N) (hg : cG v p I0 xs (g p)) (ht : P s 1 = some t) (hi : il t) (hl : iLw t I0 own st) (hfx : ¬ fx.testBit p = true)
    (h70 : ∀ w ∈ xs, I0 70 (g p w) = mo (oA p (g p) xs w true) (oA p (g p) xs w false)) (h72 : ∀ w ∈ xs, I0 72 w = nI (bset (cGo N xs g own fx w) p))
    (kk : ∀ I, cFr [72] I0 I → (∀ w ∈ xs, I 72 w = nI (bset (cGo N xs g own fx w) (p + 1))) → gw_X4_findGoers (d + 1) Q 23 [some (.ref 23), some (.ref s), some (.int (nI fx)), some (.int (nI (p + 1))), none, none, none, none] [] I L P) :
    ∀ ys zs I, xs = zs ++ ys → cFr [72] I0 I → (∀ w ∈ zs, I 72 w = nI (bset (cGo N xs g own fx w) (p + 1))) → (∀ w ∈ ys, I 72 w = I0 72 w) →
      gw_X4_findGoers (d + 1) Q 67 [some (.ref 23), some (.ref s), some (.int (nI fx)), some (.int (nI p)), some (.ref (v + 2 + p)), some (.int (nI zs.length)), none, none] [] I L P := by
  obtain ⟨p1, p2, p3, p4⟩ := sc_P hsc hP
  obtain ⟨-, -, -, -, -, v6⟩ := vw_P (sc_v hsc) hP
  have b1 := (il_P hi hP).1
  have hsc2 := hsc
  unfold sc at hsc2
  have hi2 := hi
  unfold il at hi2
  intro ys
  induction ys with
  | nil =>
    intro zs I e hf h1 h2
    rw [List.append_nil] at e
    subst e
    have hS1 := cS_c hS (show I s 3 = I0 s 3 by rw [hf s (by simp only [List.mem_cons, List.not_mem_nil, or_false]; omega)]) (hf l (by simp only [List.mem_cons, List.not_mem_nil, or_false]; omega))
    refine g_X4_findGoers_67 hP ⟨p1, fun _ => ?_, fun q => absurd (cS_end hS1) q⟩
    rw [nI_1]
    exact kk I hf h1
  | cons x ys ih =>
    intro zs I e hf h1 h2
    have hS1 := cS_c hS (show I s 3 = I0 s 3 by rw [hf s (by simp only [List.mem_cons, List.not_mem_nil, or_false]; omega)]) (hf l (by simp only [List.mem_cons, List.not_mem_nil, or_false]; omega))
    obtain ⟨a1, a2, a3, a4, a5, a6, a7, a8, a9⟩ := cS_on hS1 e
    obtain ⟨g1, g2⟩ := cG_c hg (hf (v + 2 + p) (by simp only [List.mem_cons, List.not_mem_nil, or_false]; omega)) x a7
    have e' : xs = (zs ++ [x]) ++ ys := by rw [e, List.append_assoc]; rfl
    have hl1 := iLw_c hl (hf t (by simp only [List.mem_cons, List.not_mem_nil, or_false]; omega))
    have hnx : x ∉ ys ∧ x ∉ zs := by
      rw [e, List.nodup_append] at hd
      exact ⟨fun z => (List.nodup_cons.mp hd.2.1).1 z, fun z => hd.2.2 x z x (by simp) rfl⟩
    have mm := mo_one (N := N) (p := p) (g := g) hN a7
    have ek : I 70 (I (v + 2 + p) (I l (nI zs.length).toNatClampNeg).toNatClampNeg).toNatClampNeg = mo (oA p (g p) xs x true) (oA p (g p) xs x false) := by
      rw [a3, a5, g2, nI_cl (by omega), hf 70 (by simp only [List.mem_cons, List.not_mem_nil, or_false]; omega)]; exact h70 x a7
    have ex : I 72 x = nI (bset (cGo N xs g own fx x) p) := by rw [h2 x (by simp)]; exact h72 x a7
    have goes : cGo N xs g own fx x p → ∀ I1 : zI, I1 = zuI I 72 (I l (nI zs.length).toNatClampNeg).toNatClampNeg ((I 72 (I l (nI zs.length).toNatClampNeg).toNatClampNeg) ||| ((1 : Int32) <<< (nI p &&& 31) : Int32) : Int32) →
        gw_X4_findGoers (d + 1) Q 67 [some (.ref 23), some (.ref s), some (.int (nI fx)), some (.int (nI p)), some (.ref (v + 2 + p)), some (.int (nI zs.length + 1)), none, none] [] I1 L P := by
      intro hgo I1 e1
      rw [a3, a5, ex, bset_or (by omega) hgo] at e1
      subst e1
      rw [a8]
      refine ih (zs ++ [x]) _ e' (cFr_c hf (by simp)) (fun w hw => ?_) (fun w hw => ?_)
      · rcases mem_snoc.mp hw with y | y
        · rw [zuI_o (show w ≠ x from fun z => hnx.2 (z ▸ y))]; exact h1 w y
        · rw [y, zuI_v]
      · rw [zuI_o (show w ≠ x from fun z => hnx.1 (z ▸ hw))]; exact h2 w (by simp [hw])
    have not : ¬ cGo N xs g own fx x p → gw_X4_findGoers (d + 1) Q 67 [some (.ref 23), some (.ref s), some (.int (nI fx)), some (.int (nI p)), some (.ref (v + 2 + p)), some (.int (nI zs.length + 1)), none, none] [] I L P := by
      intro hgo
      rw [a8]
      refine ih (zs ++ [x]) _ e' hf (fun w hw => ?_) (fun w hw => h2 w (by simp [hw]))
      rcases mem_snoc.mp hw with y | y
      · exact h1 w y
      · rw [y, ex, bset_f hgo]
    refine g_X4_findGoers_67 hP ⟨p1, fun q => absurd q a1, fun _ => ⟨l, p2, 256, p3, a2, 256, (v6 p hp).2, by rw [a3]; exact a6, by rw [a3, a5, g2]; exact nx_in g1 (by decide), fun q => ?_, fun q => ?_⟩⟩
    · rw [ek, mm.1] at q
      exact ⟨by rw [a3]; exact a6, goes ⟨hfx, Or.inl q⟩⟩
    · rw [ek, mm.1] at q
      refine ⟨fun q2 => ?_, fun q2 => ⟨t, ht, b1, fun q3 => ?_, fun q3 => ?_⟩⟩
      · rw [ek, mm.2] at q2
        exact not (fun z => z.2.elim q (fun y => q2 y.1))
      · exact not (fun z => z.2.elim q (fun y => (hl1.2.2.mpr y.2) q3))
      · rw [ek, mm.2] at q2
        exact ⟨by rw [a3]; exact a6, goes ⟨hfx, Or.inr ⟨q2, hl1.2.2.mp q3⟩⟩⟩
theorem lp_X4_findGoers_23 (hP : zPk P) (hsc : sc s l v) (hS : cS s l I0 xs) (hd : xs.Nodup) (hN : ∀ w ∈ xs, w < N) (hg : ∀ p, p < np → cG v p I0 xs (g p)) (ht : P s 1 = some t) (hH : iH t np I0) (hl : iLw t I0 own st) (hfx : fx < 256)
    (kk : ∀ I, cFr [70, 72] I0 I → (∀ w ∈ xs, I 72 w = nI (bset (cGo N xs g own fx w) np)) → Q (some (.ref 72)) I L P 205) :
    ∀ m i I, i + m = np → cFr [70, 72] I0 I → (∀ w ∈ xs, I 72 w = nI (bset (cGo N xs g own fx w) i)) →
      gw_X4_findGoers (d + 1) Q 23 [some (.ref 23), some (.ref s), some (.int (nI fx)), some (.int (nI i)), none, none, none, none] [] I L P := by
  obtain ⟨p1, p2, p3, p4⟩ := sc_P hsc hP
  obtain ⟨v1, -⟩ := vw_P (sc_v hsc) hP
  have hsc2 := hsc
  unfold sc at hsc2
  obtain ⟨i1, i2, i3⟩ := hH
  have i1' := i1
  unfold il at i1'
  have b1 := (il_P i1 hP).1
  intro m
  induction m with
  | zero =>
    intro i I hi hf h1
    have : i = np := by omega
    subst this
    have e0 : I t 0 = nI i := by rw [hf t (by simp only [List.mem_cons, List.not_mem_nil, or_false]; omega)]; exact i3
    exact g_X4_findGoers_23 hP ⟨p1, t, ht, b1, fun _ => kk I hf h1, fun q => absurd (by rw [e0]; exact nI_le (Nat.le_refl _) (by omega)) q⟩
  | succ m ih =>
    intro i I hi hf h1
    have e0 : I t 0 = nI np := by rw [hf t (by simp only [List.mem_cons, List.not_mem_nil, or_false]; omega)]; exact i3
    have h8 : i < 8 := by omega
    have hS1 := cS_c hS (show I s 3 = I0 s 3 by rw [hf s (by simp only [List.mem_cons, List.not_mem_nil, or_false]; omega)]) (hf l (by simp only [List.mem_cons, List.not_mem_nil, or_false]; omega))
    have hg1 := cG_c (hg i (by omega)) (hf (v + 2 + i) (by simp only [List.mem_cons, List.not_mem_nil, or_false]; omega))
    refine g_X4_findGoers_23 hP ?_
    unfold v_X4_findGoers_23
    rw [nI_cl (show i < 2 ^ 31 by omega), nI_1, nx_bit (by omega) (by omega), bP_1]
    refine ⟨p1, t, ht, b1, fun q => absurd q (by rw [e0]; exact nI_ge (by omega) (by omega)), fun _ => ⟨fun q => ⟨v, p4, v1, sc_v hsc, nx_in h8 (by decide), sp_X4_markOwn hP hsc h8 hS1 hg1 (fun I1 f1 f2 => ?_)⟩, fun q => ?_⟩⟩
    · refine lp_X4_findGoers_67 hP hsc h8 (I0 := I1) (N := N) (g := g) (own := own) (st := st) (fx := fx) (cS_c hS1 (by rw [f1 s (by simp only [List.mem_cons, List.not_mem_nil, or_false]; omega)]) (f1 l (by simp only [List.mem_cons, List.not_mem_nil, or_false]; omega))) hd hN (cG_c hg1 (f1 (v + 2 + i) (by simp only [List.mem_cons, List.not_mem_nil, or_false]; omega))) ht i1 (iLw_c hl (by rw [f1 t (by simp only [List.mem_cons, List.not_mem_nil, or_false]; omega), hf t (by simp only [List.mem_cons, List.not_mem_nil, or_false]; omega)])) q f2 (fun w hw => by rw [f1 72 (by simp only [List.mem_cons, List.not_mem_nil, or_false]; omega)]; exact h1 w hw) (fun I2 f3 f4 => ?_) xs [] I1 rfl (cFr_rf _ _) (fun w hw => absurd hw (by simp)) (fun _ _ => rfl)
      exact ih (i + 1) I2 (by omega) (cFr_tr hf (cFr_tr (cFr_wk f1 (by simp)) (cFr_wk f3 (by simp)))) f4
    · refine ih (i + 1) I (by omega) hf (fun w hw => ?_)
      rw [h1 w hw, bset_f (fun z => z.1 q)]
end FG
theorem sp_X4_findGoers {d : Nat} {I : zI} {L : zL} {P : zP} {s l v t np N gn st : Nat} {own : Prop} {xs : List Nat} {g : Nat → Nat → Nat} (hP : zPk P) (hsc : sc s l v) (hS : cS s l I xs) (hd : xs.Nodup) (hN : ∀ w ∈ xs, w < N) (hg : ∀ p, p < np → cG v p I xs (g p)) (ht : P s 1 = some t) (hH : iH t np I) (hl : iLw t I own st) (h4 : I s 4 = nI gn) (hgn : gn < 256) (hd1 : 1 ≤ d) {K : Nat → zI → zL → zP → Prop}
    (kk : ∀ I', cFr [70, 72] I I' → (∀ w ∈ xs, I' 72 w = nI (bset (cGo N xs g own (gn ||| st) w) np)) → K 72 I' L P) : zMr zm_X4_findGoers d [.ref 23, .ref s] I L P K := by
  obtain ⟨d, rfl⟩ : ∃ e, d = e + 1 := ⟨d - 1, by omega⟩
  obtain ⟨p1, p2, p3, p4⟩ := sc_P hsc hP
  have hsc2 := hsc
  unfold sc at hsc2
  have i1 := hH.1
  have i2 := hH.2.1
  have b1 := (il_P i1 hP).1
  unfold il at i1
  refine g_X4_findGoers hP (sp_fill hP (n := 256) ⟨by decide, rfl⟩ (by decide) (fun I1 f1 f2 => ⟨p1, t, ht, b1, ?_⟩))
  have e4 : I1 s 4 = nI gn := by rw [f1 s (by simp only [List.mem_cons, List.not_mem_nil, or_false]; omega)]; exact h4
  have e2 : I1 t 2 = nI st := by rw [f1 t (by simp only [List.mem_cons, List.not_mem_nil, or_false]; omega)]; exact hl.1
  rw [e4, e2, nx_or]
  refine lp_X4_findGoers_23 hP hsc (I0 := I1) (np := np) (N := N) (g := g) (own := own) (st := st) (fx := gn ||| st) (cS_c hS (by rw [f1 s (by simp only [List.mem_cons, List.not_mem_nil, or_false]; omega)]) (f1 l (by simp only [List.mem_cons, List.not_mem_nil, or_false]; omega))) hd hN (fun p hp => cG_c (hg p hp) (f1 (v + 2 + p) (by simp only [List.mem_cons, List.not_mem_nil, or_false]; omega))) ht (iH_c hH (f1 t (by simp only [List.mem_cons, List.not_mem_nil, or_false]; omega))) (iLw_c hl (f1 t (by simp only [List.mem_cons, List.not_mem_nil, or_false]; omega))) (or256 hgn hl.2.1) (fun I2 f3 f4 => qr (kk I2 (cFr_tr (cFr_wk f1 (by simp)) f3) f4)) np 0 I1 (by omega) (cFr_rf _ _) (fun w hw => ?_)
  rw [f2 w (hS.2.2.1 w hw)]; rfl
abbrev gw_X4_pass (d : Nat) (Q : zQt) (pc : Nat) (lv : zV) (st : List Value) (I : zI) (L : zL) (P : zP) : Prop := zW zm_X4_pass (zRm d 0 0) 0 0 Q pc lv st I L P 205 0 0
abbrev v_X4_pass (d : Nat) (Q : zQt) (p1 : Nat) (I : zI) (L : zL) (P : zP) : Prop :=
  zMr zm_X4_findGoers d [.ref 23, .ref p1] I L P (fun r5 I1 L2 P3 =>
    zPk P3 ∧
    (p1 < 205 ∧ (zsh p1).1 = 5) ∧
    ∃ b8 : Nat, P3 p1 1 = some b8 ∧
    (b8 < 205 ∧ (zsh b8).1 = 2) ∧
    vp_in (I1 b8 1) 256 ∧
    zMv zm_X6_keepEqual d [.ref p1, .ref 72, .int (I1 72 (I1 b8 1).toNatClampNeg)] I1 L2 P3 (fun I12 L13 P14 =>
      ∀ I17 : zI, I17 = zuI I12 p1 4 ((I12 p1 4) ||| (I1 72 (I1 b8 1).toNatClampNeg) : Int32) →
      ∀ I19 : zI, I19 = zuI I17 p1 5 ((I17 p1 5) + 1) →
      Q (some (.int (I1 72 (I1 b8 1).toNatClampNeg))) I19 L13 P14 205
    )
  )
set_option maxRecDepth 20000 in
theorem g_X4_pass {d : Nat} {Q : zQt} {p1 : Nat} {I : zI} {L : zL} {P : zP} (hP : zPk P) (hv : v_X4_pass d Q p1 I L P) : zM zm_X4_pass (d + 1) 0 0 [.ref 23, .ref p1] I L P 205 Q := by
  unfold v_X4_pass at hv
  refine zM_of (lv0 := [some (.ref 23), some (.ref p1), none]) (by decide +kernel) (Nat.le_of_ble_eq_true rfl) rfl ?_
  refine z_aload_n dX4_pass_0 rfl ?_
  refine z_aload_n dX4_pass_1 rfl ?_
  refine z_callV (As := [.ref p1]) (st := []) dX4_pass_2 zl_X4_175 zv_X4_findGoers (by decide) rfl zn_23 zo_23 rfl rfl (Nat.le_of_ble_eq_true rfl) ⟨Nat.le_refl _, Nat.le_refl _⟩ ⟨Nat.le_refl _, Nat.le_refl _⟩ hv (fun v1 I1 L2 P3 nx1 q4 => ?_)
  obtain ⟨rfl, r5, rfl, hv⟩ := q4
  refine z_pop dX4_pass_5 rfl ?_
  refine z_aload_n dX4_pass_6 rfl ?_
  obtain ⟨h6, hv⟩ := hv
  refine z_getP dX4_pass_7 zf_X4_28 zn_23 zo_23 (fun _ _ _ _ _ => rfl) (h6 23 4 72 zp_23_4) ?_
  refine z_aload_n dX4_pass_10 rfl ?_
  obtain ⟨h7, hv⟩ := hv
  obtain ⟨b8, h9, hv⟩ := hv
  refine z_getP dX4_pass_11 zf_X4_35 h7.1 h7.2 (fun _ _ _ _ _ => rfl) h9 ?_
  obtain ⟨h10, hv⟩ := hv
  refine z_getI dX4_pass_14 zf_X4_162 h10.1 h10.2 (fun _ _ _ _ _ => rfl) ?_
  obtain ⟨h11, hv⟩ := hv
  refine z_iaload dX4_pass_17 zn_72 zh_72 h11 ?_
  refine z_istore_n (lv2 := [some (.ref 23), some (.ref p1), some (.int (I1 72 (I1 b8 1).toNatClampNeg))]) dX4_pass_18 (by decide) rfl rfl ?_
  refine z_aload_n dX4_pass_19 rfl ?_
  refine z_aload_n dX4_pass_20 rfl ?_
  refine z_getP dX4_pass_21 zf_X4_28 zn_23 zo_23 (fun _ _ _ _ _ => rfl) (h6 23 4 72 zp_23_4) ?_
  refine z_iload_n dX4_pass_24 rfl ?_
  refine z_callV (As := [.ref 72, .int (I1 72 (I1 b8 1).toNatClampNeg)]) (st := []) dX4_pass_25 zl_X4_179 zv_X6_keepEqual (by decide) rfl h7.1 h7.2 rfl rfl (Nat.le_of_ble_eq_true rfl) ⟨Nat.le_refl _, Nat.le_refl _⟩ ⟨Nat.le_refl _, Nat.le_refl _⟩ hv (fun v1 I12 L13 P14 nx1 q15 => ?_)
  obtain ⟨rfl, rfl, hv⟩ := q15
  refine z_aload_n dX4_pass_28 rfl ?_
  refine z_dup dX4_pass_29 rfl ?_
  refine z_getI dX4_pass_30 zf_X4_101 h7.1 h7.2 (fun _ _ _ _ _ => rfl) ?_
  refine z_iload_n dX4_pass_33 rfl ?_
  refine z_ior dX4_pass_34 ?_
  refine z_putI dX4_pass_35 zf_X4_101 h7.1 h7.2 (Or.inl rfl) (fun _ _ _ _ _ => rfl) rfl rfl (z_nmI (fun I17 e18 => ?_))
  have hv := hv I17 e18
  refine z_aload_n dX4_pass_38 rfl ?_
  refine z_dup dX4_pass_39 rfl ?_
  refine z_getI dX4_pass_40 zf_X4_182 h7.1 h7.2 (fun _ _ _ _ _ => rfl) ?_
  refine z_iconst (v := 1) dX4_pass_43 (by decide) ?_
  refine z_iadd dX4_pass_44 ?_
  refine z_putI dX4_pass_45 zf_X4_182 h7.1 h7.2 (Or.inl rfl) (fun _ _ _ _ _ => rfl) rfl rfl (z_nmI (fun I19 e20 => ?_))
  have hv := hv I19 e20
  refine z_iload_n dX4_pass_48 rfl ?_
  exact z_ireturn dX4_pass_49 rfl rfl (Nat.le_refl _) (Nat.le_refl _) hv
theorem sp_X4_pass {d : Nat} {I : zI} {L : zL} {P : zP} {s l v t np N gn st tw : Nat} {own : Prop} {xs : List Nat} {g : Nat → Nat → Nat} (hP : zPk P) (hsc : sc s l v) (hS : cS s l I xs) (hd : xs.Nodup) (hN : ∀ w ∈ xs, w < N) (hg : ∀ p, p < np → cG v p I xs (g p)) (ht : P s 1 = some t) (hH : iH t np I) (hl : iLw t I own st) (h4 : I s 4 = nI gn) (hgn : gn < 256) (hm : I t 1 = nI tw) (hw : tw ∈ xs) (hd1 : 2 ≤ d) {K : Int32 → zI → zL → zP → Prop}
    (kk : ∀ I', cFr [70, 72, s, l] I I' → cS s l I' (cK (fun w => bset (cGo N xs g own (gn ||| st) w) np = bset (cGo N xs g own (gn ||| st) tw) np) xs) → I' s 4 = nI (gn ||| bset (cGo N xs g own (gn ||| st) tw) np) → I' s 5 = I s 5 + 1 → I' s 6 = I s 6 → K (nI (bset (cGo N xs g own (gn ||| st) tw) np)) I' L P) : zMi zm_X4_pass d [.ref 23, .ref s] I L P K := by
  obtain ⟨d, rfl⟩ : ∃ e, d = e + 1 := ⟨d - 1, by omega⟩
  obtain ⟨p1, p2, p3, p4⟩ := sc_P hsc hP
  have hsc2 := hsc
  unfold sc at hsc2
  have i1 := hH.1
  have i2 := hH.2.1
  have b1 := (il_P i1 hP).1
  unfold il at i1
  have h256 := hS.2.2.1 tw hw
  have hb : ∀ w, bset (cGo N xs g own (gn ||| st) w) np < 256 := fun w => Nat.lt_of_lt_of_le (bset_lt _ _) (pw8 i2)
  refine g_X4_pass hP (sp_X4_findGoers hP hsc hS hd hN hg ht hH hl h4 hgn (by omega) (fun I1 f1 f2 => ?_))
  have em : I1 t 1 = nI tw := by rw [f1 t (by simp only [List.mem_cons, List.not_mem_nil, or_false]; omega)]; exact hm
  have e72 : I1 72 (I1 t 1).toNatClampNeg = nI (bset (cGo N xs g own (gn ||| st) tw) np) := by rw [em, nI_cl (by omega)]; exact f2 tw hw
  refine ⟨hP, p1, t, ht, b1, by rw [em]; exact nx_in h256 (by decide), ?_⟩
  rw [e72]
  refine sp_X6_keepEqual hP hsc (cS_c hS (by rw [f1 s (by simp only [List.mem_cons, List.not_mem_nil, or_false]; omega)]) (f1 l (by simp only [List.mem_cons, List.not_mem_nil, or_false]; omega))) (fun I2 f3 f5 f6 I3 e3 I4 e4 => qi ?_)
  have ek : cK (fun w => I1 72 w = nI (bset (cGo N xs g own (gn ||| st) tw) np)) xs = cK (fun w => bset (cGo N xs g own (gn ||| st) w) np = bset (cGo N xs g own (gn ||| st) tw) np) xs := by
    refine cK_c (fun w hw => ?_)
    rw [f2 w hw, nI_eq (by have := hb w; omega) (by have := hb tw; omega)]
  rw [ek] at f6
  have e42 : I2 s 4 = nI gn := by rw [f5 4 (by decide), f1 s (by simp only [List.mem_cons, List.not_mem_nil, or_false]; omega)]; exact h4
  rw [e42, nx_or] at e3
  have e35 : I3 s 5 = I s 5 := by rw [e3, zuI_o (by decide), f5 5 (by decide), f1 s (by simp only [List.mem_cons, List.not_mem_nil, or_false]; omega)]
  rw [e35] at e4
  subst e4
  subst e3
  refine kk _ (cFr_c (cFr_c (cFr_tr (cFr_wk f1 (by simp)) (cFr_wk f3 (by simp))) (by simp)) (by simp)) (cS_c f6 ?_ ?_) ?_ (zuI_v _ _ _ _) ?_
  · rw [zuI_o (by decide), zuI_o (by decide)]
  · rw [zuI_ne (by omega), zuI_ne (by omega)]
  · rw [zuI_o (by decide), zuI_v]
  · rw [zuI_o (by decide), zuI_o (by decide), f5 6 (by decide), f1 s (by simp only [List.mem_cons, List.not_mem_nil, or_false]; omega)]
