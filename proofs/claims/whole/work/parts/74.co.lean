/-! ===== the class: sets of sayings noted ===== -/
theorem lB1_or (x : Int64) {k s : Nat} (hk : k < 64) (hs : s < 64) : lB1 (x ||| ((1 : Int64) <<< ((nI s).toInt64 &&& 63) : Int64) : Int64) k ↔ lB1 x k ∨ k = s := by
  rw [lB1_iff _ hk, lB1_iff _ hk, Int64.toBitVec_or, BitVec.getLsbD_or, Bool.or_eq_true]
  have key : ∀ s, s < 64 → ∀ k, k < 64 → (((1 : Int64) <<< ((nI s).toInt64 &&& 63) : Int64).toBitVec.getLsbD k = decide (k = s)) := by decide +kernel
  rw [key s hs k hk, decide_eq_true_eq]
theorem lB1_0 {k : Nat} (hk : k < 64) : ¬ lB1 0 k := by
  rw [lB1_iff _ hk]
  simp
theorem lB1_1 {k : Nat} (hk : k < 64) : lB1 1 k ↔ k = 0 := by
  rw [lB1_iff _ hk]
  show (1#64).getLsbD k = true ↔ k = 0
  rw [BitVec.getLsbD_one]
  simp [hk]
theorem lB1_z (x : Int64) {k : Nat} (hk : k < 64) : lg_cmp ((x >>> ((nI k).toInt64 &&& 63) : Int64) &&& 1 : Int64) 0 = 0 ↔ ¬ lB1 x k := by
  have h1 := lB1_iff x hk
  unfold lB1 at h1 ⊢
  rw [lg_cmp_eq, lg_cmp_eq]
  have : ∀ y : Int64, (y &&& 1 = 0) ∨ (y &&& 1 = 1) := by
    intro y
    have hb : (y &&& 1 : Int64).toBitVec = 0#64 ∨ (y &&& 1 : Int64).toBitVec = 1#64 := by
      have e : (y &&& 1 : Int64).toBitVec = if y.toBitVec.getLsbD 0 = true then 1#64 else 0#64 := by
        rw [Int64.toBitVec_and]
        apply BitVec.eq_of_getLsbD_eq
        intro i hi
        rw [BitVec.getLsbD_and]
        show (y.toBitVec.getLsbD i && (1#64).getLsbD i) = _
        rw [BitVec.getLsbD_one]
        by_cases e : i = 0
        · subst e
          by_cases h : y.toBitVec.getLsbD 0 = true
          · rw [if_pos h, h]; simp
          · rw [if_neg h]; simp at h ⊢; simp [h]
        · by_cases h : y.toBitVec.getLsbD 0 = true
          · rw [if_pos h, BitVec.getLsbD_one]; simp [e]
          · rw [if_neg h]; simp [e]
      rw [e]
      by_cases h : y.toBitVec.getLsbD 0 = true
      · rw [if_pos h]; exact Or.inr rfl
      · rw [if_neg h]; exact Or.inl rfl
    rcases hb with h | h
    · left; exact Int64.toBitVec_inj.1 h
    · right; exact Int64.toBitVec_inj.1 h
  rcases this (x >>> ((nI k).toInt64 &&& 63) : Int64) with h | h <;> rw [h] <;> decide
/-- longs: only this row has changed -/
def cFl (cs : List Nat) (L0 L : zL) : Prop := ∀ a, a ∉ cs → L a = L0 a
theorem sp_X6_note {d : Nat} {I : zI} {L : zL} {P : zP} {s l v k : Nat} {xs : List Nat} (hP : zPk P) (hsc : sc s l v) (hS : cS s l I xs) (hd : xs.Nodup) {K : zI → zL → zP → Prop}
    (kk : ∀ L', cFl [120] L L' → (∀ w ∈ xs, L' 120 w = (L 120 w ||| ((1 : Int64) <<< ((nI k).toInt64 &&& 63) : Int64) : Int64)) → (∀ w, w ∉ xs → L' 120 w = L 120 w) → K I L' P) : zMv zm_X6_note d [.ref s, .ref 120, .int (nI k)] I L P K := by
  obtain ⟨p1, p2, p3, p4⟩ := sc_P hsc hP
  have key : ∀ ys zs L1, xs = zs ++ ys → cFl [120] L L1 → (∀ w ∈ zs, L1 120 w = (L 120 w ||| ((1 : Int64) <<< ((nI k).toInt64 &&& 63) : Int64) : Int64)) → (∀ w, w ∉ zs → L1 120 w = L 120 w) → gw_X6_note d (fun v I' L' P' nx' => nx' = 205 ∧ v = none ∧ K I' L' P') 2 [some (.ref s), some (.ref 120), some (.int (nI k)), some (.int (nI zs.length))] [] I L1 P := by
    intro ys
    induction ys with
    | nil =>
      intro zs L1 e hf h1 h2
      rw [List.append_nil] at e
      subst e
      exact g_X6_note_2 hP ⟨p1, fun _ => qv (kk L1 hf h1 h2), fun q => absurd (cS_end hS) q⟩
    | cons x ys ih =>
      intro zs L1 e hf h1 h2
      obtain ⟨a1, a2, a3, a4, a5, a6, a7, a8, a9⟩ := cS_on hS e
      have hx : x ∉ zs := by
        intro z
        rw [e, List.nodup_append] at hd
        exact hd.2.2 x z x (by simp) rfl
      refine g_X6_note_2 hP ⟨p1, fun q => absurd q a1, fun _ => ⟨l, p2, 256, p3, a2, by rw [a3]; exact a6, fun L2 e2 => ?_⟩⟩
      rw [a3, a5, h2 x hx] at e2
      subst e2
      rw [a8]
      refine ih (zs ++ [x]) _ (by rw [e, List.append_assoc]; rfl) (fun a ha => by rw [zuL_ne (fun z => ha (by simp [z]))]; exact hf a ha) (fun w hw => ?_) (fun w hw => ?_)
      · by_cases hwx : w = x
        · rw [hwx, zuL_v]
        · rw [zuL_o hwx]
          rcases mem_snoc.mp hw with y | y
          · exact h1 w y
          · exact absurd y hwx
      · rw [zuL_o (fun z => hw (mem_snoc.mpr (Or.inr z)))]
        exact h2 w (fun z => hw (mem_snoc.mpr (Or.inl z)))
  exact g_X6_note hP (key xs [] L rfl (fun _ _ => rfl) (fun w hw => absurd hw (by simp)) (fun _ _ => rfl))
abbrev gw_X6_keepNoted (d : Nat) (Q : zQt) (pc : Nat) (lv : zV) (st : List Value) (I : zI) (L : zL) (P : zP) : Prop := zW zm_X6_keepNoted (zRm d 0 0) 0 0 Q pc lv st I L P 205 0 0
abbrev v_X6_keepNoted_5 (d : Nat) (Q : zQt) (a : Nat) (p2 : Int32) (x3 : Int32) (x4 : Int32) (I : zI) (L : zL) (P : zP) : Prop :=
  (a < 205 ∧ (zsh a).1 = 5) ∧
  (((I a 3) ≤ x4 →
    ∀ I3 : zI, I3 = zuI I a 3 x3 →
    Q none I3 L P 205
  ) ∧ (¬ (I a 3) ≤ x4 →
    ∃ b5 : Nat, P a 2 = some b5 ∧
    ∃ n8, (b5 < 205 ∧ zsh b5 = (100, n8)) ∧
    vp_in x4 n8 ∧
    vp_in (I b5 x4.toNatClampNeg) 256 ∧
    ((¬ (lg_cmp ((((L 120 (I b5 x4.toNatClampNeg).toNatClampNeg) : Int64) >>> ((p2 : Int32).toInt64 &&& 63) : Int64) &&& 1 : Int64) 1) = 0 →
      gw_X6_keepNoted d Q 5 [some (.ref a), some (.ref 120), some (.int p2), some (.int x3), some (.int (x4 + 1))] [] I L P
    ) ∧ ((lg_cmp ((((L 120 (I b5 x4.toNatClampNeg).toNatClampNeg) : Int64) >>> ((p2 : Int32).toInt64 &&& 63) : Int64) &&& 1 : Int64) 1) = 0 →
      vp_in x3 n8 ∧
      ∀ I14 : zI, I14 = zuI I b5 x3.toNatClampNeg (I b5 x4.toNatClampNeg) →
      gw_X6_keepNoted d Q 5 [some (.ref a), some (.ref 120), some (.int p2), some (.int (x3 + 1)), some (.int (x4 + 1))] [] I14 L P
    ))
  ))
set_option maxRecDepth 20000 in
theorem g_X6_keepNoted_5 {d : Nat} {Q : zQt} {a : Nat} {p2 : Int32} {x3 : Int32} {x4 : Int32} {I : zI} {L : zL} {P : zP} (hP : zPk P) (hv : v_X6_keepNoted_5 d Q a p2 x3 x4 I L P) : gw_X6_keepNoted d Q 5 [some (.ref a), some (.ref 120), some (.int p2), some (.int x3), some (.int x4)] [] I L P := by
  unfold v_X6_keepNoted_5 at hv
  refine z_iload dX6_keepNoted_5 rfl ?_
  refine z_aload_n dX6_keepNoted_7 rfl ?_
  obtain ⟨h1, hv⟩ := hv
  refine z_getI dX6_keepNoted_8 zf_X6_17 h1.1 h1.2 (fun _ _ _ _ _ => rfl) ?_
  refine z_icmp_ge (tgt := 54) dX6_keepNoted_11 (by decide) (fun q2 => ?_) (fun q2 => ?_)
  · have hv := hv.1 q2
    refine z_aload_n dX6_keepNoted_54 rfl ?_
    refine z_iload_n dX6_keepNoted_55 rfl ?_
    refine z_putI dX6_keepNoted_56 zf_X6_17 h1.1 h1.2 (Or.inl rfl) (fun _ _ _ _ _ => rfl) rfl rfl (z_nmI (fun I3 e4 => ?_))
    have hv := hv I3 e4
    exact z_return dX6_keepNoted_59 rfl (Nat.le_refl _) (Nat.le_refl _) hv
  · have hv := hv.2 q2
    refine z_aload_n dX6_keepNoted_14 rfl ?_
    refine z_aload_n dX6_keepNoted_15 rfl ?_
    obtain ⟨b5, h6, hv⟩ := hv
    refine z_getP dX6_keepNoted_16 zf_X6_11 h1.1 h1.2 (fun _ _ _ _ _ => rfl) h6 ?_
    refine z_iload dX6_keepNoted_19 rfl ?_
    obtain ⟨n8, h7, hv⟩ := hv
    obtain ⟨h9, hv⟩ := hv
    refine z_iaload dX6_keepNoted_21 h7.1 h7.2 h9 ?_
    obtain ⟨h10, hv⟩ := hv
    refine z_laload dX6_keepNoted_22 zn_120 zh_120 h10 ?_
    refine z_iload_n dX6_keepNoted_23 rfl ?_
    refine z_lshr dX6_keepNoted_24 ?_
    refine z_lconst (v := 1) dX6_keepNoted_25 (by decide) ?_
    refine z_land dX6_keepNoted_26 ?_
    refine z_lconst (v := 1) dX6_keepNoted_27 (by decide) ?_
    refine z_lcmp dX6_keepNoted_28 ?_
    refine z_if_ne (tgt := 48) dX6_keepNoted_29 (by decide) (fun q11 => ?_) (fun q11 => ?_)
    · have hv := hv.1 q11
      refine z_iinc (v2 := x4 + 1) (lv2 := [some (.ref a), some (.ref 120), some (.int p2), some (.int x3), some (.int (x4 + 1))]) dX6_keepNoted_48 rfl (by rfl) (by decide) rfl rfl ?_
      refine z_goto (tgt := 5) dX6_keepNoted_51 (by decide) ?_
      exact hv
    · have hv := hv.2 q11
      refine z_aload_n dX6_keepNoted_32 rfl ?_
      refine z_getP dX6_keepNoted_33 zf_X6_11 h1.1 h1.2 (fun _ _ _ _ _ => rfl) h6 ?_
      refine z_iload_n dX6_keepNoted_36 rfl ?_
      refine z_aload_n dX6_keepNoted_37 rfl ?_
      refine z_getP dX6_keepNoted_38 zf_X6_11 h1.1 h1.2 (fun _ _ _ _ _ => rfl) h6 ?_
      refine z_iload dX6_keepNoted_41 rfl ?_
      refine z_iaload dX6_keepNoted_43 h7.1 h7.2 h9 ?_
      obtain ⟨h12, hv⟩ := hv
      refine z_iastore dX6_keepNoted_44 h7.1 h7.2 h12 (z_nmI (fun I14 e13 => ?_))
      have hv := hv I14 e13
      refine z_iinc (v2 := x3 + 1) (lv2 := [some (.ref a), some (.ref 120), some (.int p2), some (.int (x3 + 1)), some (.int x4)]) dX6_keepNoted_45 rfl (by rfl) (by decide) rfl rfl ?_
      refine z_iinc (v2 := x4 + 1) (lv2 := [some (.ref a), some (.ref 120), some (.int p2), some (.int (x3 + 1)), some (.int (x4 + 1))]) dX6_keepNoted_48 rfl (by rfl) (by decide) rfl rfl ?_
      refine z_goto (tgt := 5) dX6_keepNoted_51 (by decide) ?_
      exact hv
abbrev v_X6_keepNoted (d : Nat) (Q : zQt) (a : Nat) (p2 : Int32) (I : zI) (L : zL) (P : zP) : Prop :=
  gw_X6_keepNoted d Q 5 [some (.ref a), some (.ref 120), some (.int p2), some (.int 0), some (.int 0)] [] I L P
set_option maxRecDepth 20000 in
theorem g_X6_keepNoted {d : Nat} {Q : zQt} {a : Nat} {p2 : Int32} {I : zI} {L : zL} {P : zP} (hP : zPk P) (hv : v_X6_keepNoted d Q a p2 I L P) : zM zm_X6_keepNoted d 0 0 [.ref a, .ref 120, .int p2] I L P 205 Q := by
  unfold v_X6_keepNoted at hv
  refine zM_of (lv0 := [some (.ref a), some (.ref 120), some (.int p2), none, none]) (by decide +kernel) (Nat.le_of_ble_eq_true rfl) rfl ?_
  refine z_iconst (v := 0) dX6_keepNoted_0 (by decide) ?_
  refine z_istore_n (lv2 := [some (.ref a), some (.ref 120), some (.int p2), some (.int 0), none]) dX6_keepNoted_1 (by decide) rfl rfl ?_
  refine z_iconst (v := 0) dX6_keepNoted_2 (by decide) ?_
  refine z_istore (lv2 := [some (.ref a), some (.ref 120), some (.int p2), some (.int 0), some (.int 0)]) dX6_keepNoted_3 (by decide) rfl rfl ?_
  exact hv
theorem lp_X6_keepNoted {d : Nat} {Q : zQt} {I0 : zI} {L : zL} {P : zP} {s l v k : Nat} {xs : List Nat} (hP : zPk P) (hsc : sc s l v) (hS : cS s l I0 xs)
    (kk : ∀ I, cFr [s, l] I0 I → (∀ k, k ≠ 3 → I s k = I0 s k) → cS s l I (cK (fun w => lB1 (L 120 w) k) xs) → Q none I L P 205) :
    ∀ ys zs I, xs = zs ++ ys → cFr [l] I0 I → cV l I (cK (fun w => lB1 (L 120 w) k) zs) zs.length ys → gw_X6_keepNoted d Q 5 [some (.ref s), some (.ref 120), some (.int (nI k)), some (.int (nI (cK (fun w => lB1 (L 120 w) k) zs).length)), some (.int (nI zs.length))] [] I L P := by
  obtain ⟨p1, p2, p3, p4⟩ := sc_P hsc hP
  have hsc2 := hsc
  unfold sc at hsc2
  intro ys
  induction ys with
  | nil =>
    intro zs I e hf hv
    rw [List.append_nil] at e
    subst e
    have e3 : I s 3 = nI xs.length := by rw [hf s (by simp only [List.mem_cons, List.not_mem_nil, or_false]; omega)]; exact hS.1
    have hl := cK_len (fun w => lB1 (L 120 w) k) xs
    have h256 := hS.2.1
    refine g_X6_keepNoted_5 hP ⟨p1, fun _ I1 e1 => ?_, fun q => absurd (by rw [e3]; exact nI_le (Nat.le_refl _) (by omega)) q⟩
    subst e1
    refine kk _ (cFr_c (cFr_wk hf (by simp)) (by simp)) (fun k hk => ?_) ⟨zuI_v _ _ _ _, by omega, fun w hw => hS.2.2.1 w ((cK_mem _ _ _).mp hw).1, fun i w hw => ?_⟩
    · rw [zuI_o hk, hf s (by simp only [List.mem_cons, List.not_mem_nil, or_false]; omega)]
    · rw [zuI_ne (by omega)]; exact hv.1 i w hw
  | cons x ys ih =>
    intro zs I e hf hv
    obtain ⟨a1, a2, a3, a4, a5, a6, a7, a8, a9⟩ := cS_on hS e
    have hl := cK_len (fun w => lB1 (L 120 w) k) zs
    have es : I s 3 = I0 s 3 := by rw [hf s (by simp only [List.mem_cons, List.not_mem_nil, or_false]; omega)]
    have ex : I l (nI zs.length).toNatClampNeg = nI x := by rw [nI_cl (by omega)]; exact cV_at hv
    refine g_X6_keepNoted_5 hP ⟨p1, fun q => absurd q (by rw [es]; exact a1), fun _ => ⟨l, p2, 256, p3, a2, by rw [ex]; exact a6, fun q => ?_, fun q => ⟨nx_in (by omega) (by decide), fun I1 e1 => ?_⟩⟩⟩
    · rw [ex, a5] at q
      rw [a8]
      have := ih (zs ++ [x]) I (by rw [e, List.append_assoc]; rfl) hf
      rw [cK_0 (f := fun w => lB1 (L 120 w) k) zs q] at this
      exact this (cV_0 hv)
    · rw [ex, a5] at q
      rw [ex, nI_cl (by omega)] at e1
      subst e1
      rw [a8]
      have := ih (zs ++ [x]) (zuI I l (cK (fun w => lB1 (L 120 w) k) zs).length (nI x)) (by rw [e, List.append_assoc]; rfl) (cFr_c hf (by simp))
      rw [cK_1 (f := fun w => lB1 (L 120 w) k) zs q] at this
      rw [nI_1]
      have hlen : ∀ ks : List Nat, (ks ++ [x]).length = ks.length + 1 := fun ks => by simp
      rw [hlen (cK _ zs)] at this
      exact this (cV_1 hl hv)
theorem sp_X6_keepNoted {d : Nat} {I : zI} {L : zL} {P : zP} {s l v k : Nat} {xs : List Nat} (hP : zPk P) (hsc : sc s l v) (hS : cS s l I xs) {K : zI → zL → zP → Prop}
    (kk : ∀ I', cFr [s, l] I I' → (∀ k, k ≠ 3 → I' s k = I s k) → cS s l I' (cK (fun w => lB1 (L 120 w) k) xs) → K I' L P) : zMv zm_X6_keepNoted d [.ref s, .ref 120, .int (nI k)] I L P K :=
  g_X6_keepNoted hP (lp_X6_keepNoted hP hsc hS (fun I' a b c => qv (kk I' a b c)) xs [] I rfl (cFr_rf _ _) (cV_st hS.2.2.2))
abbrev gw_J7_fill_d0a16 (d : Nat) (Q : zQt) (pc : Nat) (lv : zV) (st : List Value) (I : zI) (L : zL) (P : zP) : Prop := zW zm_J7_fill_d0a16 (zRm d 0 0) 0 0 Q pc lv st I L P 205 0 0
abbrev v_J7_fill_d0a16_6 (d : Nat) (Q : zQt) (p1 : Nat) (p2 : Int64) (x3 : Int32) (x4 : Int32) (I : zI) (L : zL) (P : zP) : Prop :=
  ((x4 ≤ x3 →
    Q none I L P 205
  ) ∧ (¬ x4 ≤ x3 →
    ∃ n5, (p1 < 205 ∧ zsh p1 = (101, n5)) ∧
    vp_in x3 n5 ∧
    ∀ L8 : zL, L8 = zuL L p1 x3.toNatClampNeg p2 →
    gw_J7_fill_d0a16 d Q 6 [some (.ref p1), some (.long p2), none, some (.int (x3 + 1)), some (.int x4)] [] I L8 P
  ))
set_option maxRecDepth 20000 in
theorem g_J7_fill_d0a16_6 {d : Nat} {Q : zQt} {p1 : Nat} {p2 : Int64} {x3 : Int32} {x4 : Int32} {I : zI} {L : zL} {P : zP} (hP : zPk P) (hv : v_J7_fill_d0a16_6 d Q p1 p2 x3 x4 I L P) : gw_J7_fill_d0a16 d Q 6 [some (.ref p1), some (.long p2), none, some (.int x3), some (.int x4)] [] I L P := by
  unfold v_J7_fill_d0a16_6 at hv
  refine z_iload_n dJ7_fill_d0a16_6 rfl ?_
  refine z_iload dJ7_fill_d0a16_7 rfl ?_
  refine z_icmp_ge (tgt := 22) dJ7_fill_d0a16_9 (by decide) (fun q3 => ?_) (fun q3 => ?_)
  · have hv := hv.1 q3
    exact z_return dJ7_fill_d0a16_22 rfl (Nat.le_refl _) (Nat.le_refl _) hv
  · have hv := hv.2 q3
    refine z_aload_n dJ7_fill_d0a16_12 rfl ?_
    refine z_iload_n dJ7_fill_d0a16_13 rfl ?_
    refine z_lload_n dJ7_fill_d0a16_14 rfl ?_
    obtain ⟨n5, h4, hv⟩ := hv
    obtain ⟨h6, hv⟩ := hv
    refine z_lastore dJ7_fill_d0a16_15 h4.1 h4.2 h6 (z_nmL (fun L8 e7 => ?_))
    have hv := hv L8 e7
    refine z_iinc (v2 := x3 + 1) (lv2 := [some (.ref p1), some (.long p2), none, some (.int (x3 + 1)), some (.int x4)]) dJ7_fill_d0a16_16 rfl (by rfl) (by decide) rfl rfl ?_
    refine z_goto (tgt := 6) dJ7_fill_d0a16_19 (by decide) ?_
    exact hv
abbrev v_J7_fill_d0a16 (d : Nat) (Q : zQt) (p1 : Nat) (p2 : Int64) (I : zI) (L : zL) (P : zP) : Prop :=
  ∃ n2, (p1 < 205 ∧ zsh p1 = (101, n2)) ∧
  gw_J7_fill_d0a16 d Q 6 [some (.ref p1), some (.long p2), none, some (.int 0), some (.int (Int32.ofNat n2))] [] I L P
set_option maxRecDepth 20000 in
theorem g_J7_fill_d0a16 {d : Nat} {Q : zQt} {p1 : Nat} {p2 : Int64} {I : zI} {L : zL} {P : zP} (hP : zPk P) (hv : v_J7_fill_d0a16 d Q p1 p2 I L P) : zM zm_J7_fill_d0a16 d 0 0 [.ref p1, .long p2] I L P 205 Q := by
  unfold v_J7_fill_d0a16 at hv
  refine zM_of (lv0 := [some (.ref p1), some (.long p2), none, none, none]) (by decide +kernel) (Nat.le_of_ble_eq_true rfl) rfl ?_
  refine z_iconst (v := 0) dJ7_fill_d0a16_0 (by decide) ?_
  refine z_istore_n (lv2 := [some (.ref p1), some (.long p2), none, some (.int 0), none]) dJ7_fill_d0a16_1 (by decide) rfl rfl ?_
  refine z_aload_n dJ7_fill_d0a16_2 rfl ?_
  obtain ⟨n2, h1, hv⟩ := hv
  refine z_alenI dJ7_fill_d0a16_3 h1.1 h1.2 (Or.inr rfl) rfl ?_
  refine z_istore (lv2 := [some (.ref p1), some (.long p2), none, some (.int 0), some (.int (Int32.ofNat n2))]) dJ7_fill_d0a16_4 (by decide) rfl rfl ?_
  exact hv
theorem sp_fillL {d : Nat} {I : zI} {L : zL} {P : zP} {x : Int64} (hP : zPk P) {K : zI → zL → zP → Prop} (kk : ∀ L', cFl [120] L L' → (∀ j, j < 256 → L' 120 j = x) → K I L' P) : zMv zm_J7_fill_d0a16 d [.ref 120, .long x] I L P K := by
  have key : ∀ m i L1, i + m = 256 → cFl [120] L L1 → (∀ j, j < i → L1 120 j = x) → gw_J7_fill_d0a16 d (fun v I' L' P' nx' => nx' = 205 ∧ v = none ∧ K I' L' P') 6 [some (.ref 120), some (.long x), none, some (.int (nI i)), some (.int (nI 256))] [] I L1 P := by
    intro m
    induction m with
    | zero =>
      intro i L1 hi hf h1
      have : i = 256 := by omega
      subst this
      exact g_J7_fill_d0a16_6 hP ⟨fun _ => qv (kk L1 hf h1), fun q => absurd (by decide) q⟩
    | succ m ih =>
      intro i L1 hi hf h1
      refine g_J7_fill_d0a16_6 hP ⟨fun q => absurd q (nI_ge (by omega) (by decide)), fun _ => ⟨256, ⟨by decide, rfl⟩, nx_in (by omega) (by decide), fun L2 e2 => ?_⟩⟩
      rw [nI_cl (by omega)] at e2
      subst e2
      rw [nI_1]
      refine ih (i + 1) _ (by omega) (fun a ha => by rw [zuL_ne (fun z => ha (by simp [z]))]; exact hf a ha) (fun j hj => ?_)
      rcases Nat.lt_succ_iff_lt_or_eq.mp hj with z | z
      · rw [zuL_o (by omega)]; exact h1 j z
      · subst z; exact zuL_v _ _ _ _
  exact g_J7_fill_d0a16 hP ⟨256, ⟨by decide, rfl⟩, key 256 0 L rfl (fun _ _ => rfl) (fun j hj => absurd hj (Nat.not_lt_zero j))⟩
abbrev gw_X11_takeLeft (d : Nat) (Q : zQt) (pc : Nat) (lv : zV) (st : List Value) (I : zI) (L : zL) (P : zP) : Prop := zW zm_X11_takeLeft (zRm d 0 0) 0 0 Q pc lv st I L P 205 0 0
abbrev v_X11_takeLeft (d : Nat) (Q : zQt) (p1 : Int32) (I : zI) (L : zL) (P : zP) : Prop :=
  zMv zm_X6_follow d [.ref 86, .ref 73] I L P (fun I1 L2 P3 =>
    zPk P3 ∧
    zMv zm_X6_keepNoted d [.ref 86, .ref 120, .int p1] I1 L2 P3 (fun I7 L8 P9 =>
      Q none I7 L8 P9 205
    )
  )
set_option maxRecDepth 20000 in
theorem g_X11_takeLeft {d : Nat} {Q : zQt} {p1 : Int32} {I : zI} {L : zL} {P : zP} (hP : zPk P) (hv : v_X11_takeLeft d Q p1 I L P) : zM zm_X11_takeLeft (d + 1) 0 0 [.ref 0, .int p1] I L P 205 Q := by
  unfold v_X11_takeLeft at hv
  refine zM_of (lv0 := [some (.ref 0), some (.int p1)]) (by decide +kernel) (Nat.le_of_ble_eq_true rfl) rfl ?_
  refine z_aload_n dX11_takeLeft_0 rfl ?_
  refine z_getP dX11_takeLeft_1 zf_X11_65 zn_0 zo_0 (fun _ _ _ _ _ => rfl) (hP 0 7 86 zp_0_7) ?_
  refine z_aload_n dX11_takeLeft_4 rfl ?_
  refine z_getP dX11_takeLeft_5 zf_X11_57 zn_0 zo_0 (fun _ _ _ _ _ => rfl) (hP 0 6 73 zp_0_6) ?_
  refine z_callV (As := [.ref 73]) (st := []) dX11_takeLeft_8 zl_X11_199 zv_X6_follow (by decide) rfl zn_86 zo_86 rfl rfl (Nat.le_of_ble_eq_true rfl) ⟨Nat.le_refl _, Nat.le_refl _⟩ ⟨Nat.le_refl _, Nat.le_refl _⟩ hv (fun v1 I1 L2 P3 nx1 q4 => ?_)
  obtain ⟨rfl, rfl, hv⟩ := q4
  refine z_aload_n dX11_takeLeft_11 rfl ?_
  obtain ⟨h6, hv⟩ := hv
  refine z_getP dX11_takeLeft_12 zf_X11_65 zn_0 zo_0 (fun _ _ _ _ _ => rfl) (h6 0 7 86 zp_0_7) ?_
  refine z_aload_n dX11_takeLeft_15 rfl ?_
  refine z_getP dX11_takeLeft_16 zf_X11_92 zn_0 zo_0 (fun _ _ _ _ _ => rfl) (h6 0 12 120 zp_0_12) ?_
  refine z_iload_n dX11_takeLeft_19 rfl ?_
  refine z_callV (As := [.ref 120, .int p1]) (st := []) dX11_takeLeft_20 zl_X11_269 zv_X6_keepNoted (by decide) rfl zn_86 zo_86 rfl rfl (Nat.le_of_ble_eq_true rfl) ⟨Nat.le_refl _, Nat.le_refl _⟩ ⟨Nat.le_refl _, Nat.le_refl _⟩ hv (fun v1 I7 L8 P9 nx1 q10 => ?_)
  obtain ⟨rfl, rfl, hv⟩ := q10
  exact z_return dX11_takeLeft_23 rfl (Nat.le_refl _) (Nat.le_refl _) hv
theorem b_takeLeft {d : Nat} {M I : zI} {L : zL} {P : zP} {t gn k : Nat} {po q : Nat → Prop} {g : Nat → Nat → Nat} (hP : zPk P) (hV : sV P 73 85 74 t M I po g gn) (hq : ∀ w, w < vN M → po w → (lB1 (L 120 w) k ↔ q w)) (hs : ∀ w, w < vN M → q w → po w) (ht : q (vTw M)) (hd : 2 ≤ d) {K : zI → zL → zP → Prop}
    (kk : ∀ I', cFr [86, 87] I I' → sV (zuP P 86 1 (some t)) 86 87 74 t M I' q g gn → I' 86 3 = nI (cP q (vN M)) → K I' L (zuP P 86 1 (some t))) : zMv zm_X11_takeLeft d [.ref 0, .int (nI k)] I L P K := by
  obtain ⟨d, rfl⟩ : ∃ e, d = e + 1 := ⟨d - 1, by omega⟩
  have hP1 : zPk (zuP P 86 1 (some t)) := zPk_u (zst_s1 (Or.inr (Or.inl ⟨rfl, rfl, rfl⟩))) hP
  refine g_X11_takeLeft hP (b_follow hP hV (by omega) (fun I1 f1 f2 f3 => ⟨hP1, ?_⟩))
  obtain ⟨⟨w1, w2, w3, w4, w5, w6, w7⟩, hg, ⟨h4, hgn⟩, htw⟩ := f2
  have hil := w6.1
  unfold il at hil
  have hnp := w6.2.1
  refine sp_X6_keepNoted hP1 w1 w2 (fun I2 f4 f5 f6 => qv ?_)
  have ek : cK (fun w => lB1 (L 120 w) k) (lP po (vN M)) = lP q (vN M) := by
    rw [lP_K]
    exact lP_c (fun w hw => ⟨fun z => (hq w hw z.1).mp z.2, fun z => ⟨hs w hw z, (hq w hw (hs w hw z)).mpr z⟩⟩)
  rw [ek] at f6
  refine kk I2 (cFr_tr f1 f4) ⟨⟨w1, f6, lP_nd _ _, fun w hw => (lP_mem.mp hw).1, w5, iH_c w6 (f4 t (by simp only [List.mem_cons, List.not_mem_nil, or_false]; omega)), fun p hp w hw => ?_⟩, gLk_s hg hs, ⟨by rw [f5 4 (by decide)]; exact h4, hgn⟩, ht⟩ (by rw [f6.1, lP_len])
  rw [f4 (74 + 2 + p) (by simp only [List.mem_cons, List.not_mem_nil, or_false]; omega)]
  exact w7 p hp w (lP_mem.mpr ⟨(lP_mem.mp hw).1, hs w (lP_mem.mp hw).1 (lP_mem.mp hw).2⟩)
