/-! ===== the class: notes of sets ===== -/
abbrev gw_X6_note (d : Nat) (Q : zQt) (pc : Nat) (lv : zV) (st : List Value) (I : zI) (L : zL) (P : zP) : Prop := zW zm_X6_note (zRm d 0 0) 0 0 Q pc lv st I L P 205 0 0
abbrev v_X6_note_2 (d : Nat) (Q : zQt) (a : Nat) (p2 : Int32) (x3 : Int32) (I : zI) (L : zL) (P : zP) : Prop :=
  (a < 205 ∧ (zsh a).1 = 5) ∧
  (((I a 3) ≤ x3 →
    Q none I L P 205
  ) ∧ (¬ (I a 3) ≤ x3 →
    ∃ b3 : Nat, P a 2 = some b3 ∧
    ∃ n6, (b3 < 205 ∧ zsh b3 = (100, n6)) ∧
    vp_in x3 n6 ∧
    vp_in (I b3 x3.toNatClampNeg) 256 ∧
    ∀ L10 : zL, L10 = zuL L 120 (I b3 x3.toNatClampNeg).toNatClampNeg ((L 120 (I b3 x3.toNatClampNeg).toNatClampNeg) ||| ((1 : Int64) <<< ((p2 : Int32).toInt64 &&& 63) : Int64) : Int64) →
    gw_X6_note d Q 2 [some (.ref a), some (.ref 120), some (.int p2), some (.int (x3 + 1))] [] I L10 P
  ))
set_option maxRecDepth 20000 in
theorem g_X6_note_2 {d : Nat} {Q : zQt} {a : Nat} {p2 : Int32} {x3 : Int32} {I : zI} {L : zL} {P : zP} (hP : zPk P) (hv : v_X6_note_2 d Q a p2 x3 I L P) : gw_X6_note d Q 2 [some (.ref a), some (.ref 120), some (.int p2), some (.int x3)] [] I L P := by
  unfold v_X6_note_2 at hv
  refine z_iload_n dX6_note_2 rfl ?_
  refine z_aload_n dX6_note_3 rfl ?_
  obtain ⟨h1, hv⟩ := hv
  refine z_getI dX6_note_4 zf_X6_17 h1.1 h1.2 (fun _ _ _ _ _ => rfl) ?_
  refine z_icmp_ge (tgt := 30) dX6_note_7 (by decide) (fun q2 => ?_) (fun q2 => ?_)
  · have hv := hv.1 q2
    exact z_return dX6_note_30 rfl (Nat.le_refl _) (Nat.le_refl _) hv
  · have hv := hv.2 q2
    refine z_aload_n dX6_note_10 rfl ?_
    refine z_aload_n dX6_note_11 rfl ?_
    obtain ⟨b3, h4, hv⟩ := hv
    refine z_getP dX6_note_12 zf_X6_11 h1.1 h1.2 (fun _ _ _ _ _ => rfl) h4 ?_
    refine z_iload_n dX6_note_15 rfl ?_
    obtain ⟨n6, h5, hv⟩ := hv
    obtain ⟨h7, hv⟩ := hv
    refine z_iaload dX6_note_16 h5.1 h5.2 h7 ?_
    refine z_dup2 dX6_note_17 rfl rfl ?_
    obtain ⟨h8, hv⟩ := hv
    refine z_laload dX6_note_18 zn_120 zh_120 h8 ?_
    refine z_lconst (v := 1) dX6_note_19 (by decide) ?_
    refine z_iload_n dX6_note_20 rfl ?_
    refine z_lshl dX6_note_21 ?_
    refine z_lor dX6_note_22 ?_
    refine z_lastore dX6_note_23 zn_120 zh_120 h8 (z_nmL (fun L10 e9 => ?_))
    have hv := hv L10 e9
    refine z_iinc (v2 := x3 + 1) (lv2 := [some (.ref a), some (.ref 120), some (.int p2), some (.int (x3 + 1))]) dX6_note_24 rfl (by rfl) (by decide) rfl rfl ?_
    refine z_goto (tgt := 2) dX6_note_27 (by decide) ?_
    exact hv
abbrev v_X6_note (d : Nat) (Q : zQt) (a : Nat) (p2 : Int32) (I : zI) (L : zL) (P : zP) : Prop :=
  gw_X6_note d Q 2 [some (.ref a), some (.ref 120), some (.int p2), some (.int 0)] [] I L P
set_option maxRecDepth 20000 in
theorem g_X6_note {d : Nat} {Q : zQt} {a : Nat} {p2 : Int32} {I : zI} {L : zL} {P : zP} (hP : zPk P) (hv : v_X6_note d Q a p2 I L P) : zM zm_X6_note d 0 0 [.ref a, .ref 120, .int p2] I L P 205 Q := by
  unfold v_X6_note at hv
  refine zM_of (lv0 := [some (.ref a), some (.ref 120), some (.int p2), none]) (by decide +kernel) (Nat.le_of_ble_eq_true rfl) rfl ?_
  refine z_iconst (v := 0) dX6_note_0 (by decide) ?_
  refine z_istore_n (lv2 := [some (.ref a), some (.ref 120), some (.int p2), some (.int 0)]) dX6_note_1 (by decide) rfl rfl ?_
  exact hv
/-- bits of a long -/
def lB1 (x : Int64) (k : Nat) : Prop := lg_cmp ((x >>> ((nI k).toInt64 &&& 63) : Int64) &&& 1 : Int64) 1 = 0
theorem lB1_iff (x : Int64) {k : Nat} (hk : k < 64) : lB1 x k ↔ x.toBitVec.getLsbD k = true := by
  unfold lB1
  rw [lg_cmp_eq]
  have e1 : ((nI k).toInt64 &&& 63 : Int64).toBitVec = BitVec.ofNat 64 k := by
    have : ∀ k, k < 64 → ((nI k).toInt64 &&& 63 : Int64).toBitVec = BitVec.ofNat 64 k := by decide +kernel
    exact this k hk
  have es : (x >>> ((nI k).toInt64 &&& 63) : Int64).toBitVec = x.toBitVec.sshiftRight k := by
    have : ∀ k, k < 64 → ∀ y : Int64, y = ((nI k).toInt64 &&& 63 : Int64) → (y.toBitVec.smod 64).toNat = k := by
      intro k hk y hy
      have : ∀ k, k < 64 → (((nI k).toInt64 &&& 63 : Int64).toBitVec.smod 64).toNat = k := by decide +kernel
      rw [hy]; exact this k hk
    rw [Int64.toBitVec_shiftRight, BitVec.sshiftRight_eq', this k hk _ rfl]
  rw [← Int64.toBitVec_inj, Int64.toBitVec_and, es]
  constructor
  · intro h
    have := congrArg (fun b => b.getLsbD 0) h
    simp only [BitVec.getLsbD_and, BitVec.getLsbD_sshiftRight] at this
    simp at this
    have h64 : ¬ 64 ≤ k := by omega
    simpa [show k < 64 from hk] using this
  · intro h
    apply BitVec.eq_of_getLsbD_eq
    intro i hi
    simp only [BitVec.getLsbD_and, BitVec.getLsbD_sshiftRight]
    by_cases e : i = 0
    · subst e
      simp [h, hk]
    · have : (1 : Int64).toBitVec.getLsbD i = false := by
        show (1#64).getLsbD i = false
        rw [BitVec.getLsbD_one]; simp [e]
      rw [this]; simp
