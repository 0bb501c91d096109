/-! ===== the model: fits, sure ===== -/
noncomputable def fNN (I : zI) (inn : Nat → Prop) : Nat → (Nat → Nat → Prop) × (Nat → Nat)
  | 0 => (fE0 inn, fun _ => 0)
  | n + 1 => (fE1 I inn (fNN I inn n).1 (fNN I inn n).2, fG1 I inn (fNN I inn n).1 (fNN I inn n).2)
/-- who goes on the night j + 1 -/
noncomputable def fGj (I : zI) (inn : Nat → Prop) (j w : Nat) : Nat := fGe I inn (fNN I inn j).1 (fNN I inn j).2 w
/-- w fits all that counts at k, on the first n nights -/
def fFi (I : zI) (inn : Nat → Prop) (k : Int32) (n w : Nat) : Prop := inn w ∧ ∀ j, j < n → ∀ s, s < vNg I → fOk I (nI (j + 1)) k (fGj I inn j w) s
/-- what a formula says before all -/
noncomputable def fRw (I : zI) (cs : List (Int32 × Int32)) : Nat → Int32 := eRun (vNp I) (vN I) (fun w => w < vN I) (fun p a b => (a ^^^ b) &&& vSee I p = 0) (nI 0) cs 0 (fun _ _ => 0) 0
/-- 0: nothing was said; else a saying -/
def fIn (I : zI) : Nat → Nat → Prop
  | 0 => fun _ => True
  | i + 1 => fun w => ¬ fRw I (vSy I i) w = 0
noncomputable def fMk (S : Nat → Prop) (p : Nat) : Nat → Nat
  | 0 => 0
  | n + 1 => fMk S p n ||| (@ite _ (S n) (Classical.propDecidable _) (if n.testBit p = true then 2 else 1) 0)
theorem fMk_lt (S : Nat → Prop) (p : Nat) : ∀ n, fMk S p n < 4
  | 0 => by unfold fMk; decide
  | n + 1 => by
    have h := fMk_lt S p n
    unfold fMk
    refine Nat.or_lt_two_pow (n := 2) h ?_
    by_cases hs : S n
    · rw [if_pos hs]; split <;> decide
    · rw [if_neg hs]; decide
noncomputable def fCt (I : zI) (k : Int32) : Nat → Nat
  | 0 => 0
  | s + 1 => fCt I k s + cP (fFi I (fIn I s) k 12) (vN I)
noncomputable def fMs (I : zI) (k : Int32) (p : Nat) : Nat → Nat
  | 0 => 0
  | s + 1 => fMs I k p s ||| fMk (fFi I (fIn I s) k 12) p (vN I)
theorem fMs_lt (I : zI) (k : Int32) (p : Nat) : ∀ n, fMs I k p n < 4
  | 0 => by unfold fMs; decide
  | n + 1 => Nat.or_lt_two_pow (n := 2) (fMs_lt I k p n) (fMk_lt _ _ _)
theorem fCt_le (I : zI) (k : Int32) : ∀ n, fCt I k n ≤ n * vN I
  | 0 => by unfold fCt; omega
  | n + 1 => by
    have := fCt_le I k n
    have := cP_le (fFi I (fIn I n) k 12) (vN I)
    unfold fCt
    rw [Nat.succ_mul]
    omega
theorem fSt_c {I0 I : zI} {inn : Nat → Prop} {E : Nat → Nat → Prop} {ga : Nat → Nat} {fi fi' : Nat → Prop} (h : fSt I0 I inn E ga fi) (e : ∀ w, fi w ↔ fi' w) : fSt I0 I inn E ga fi' :=
  ⟨h.1, h.2.1, h.2.2.1, h.2.2.2.1, fun w hw => (h.2.2.2.2 w hw).trans (bP_c (e w))⟩
abbrev gw_X12_fitsBy (d : Nat) (Q : zQt) (pc : Nat) (lv : zV) (st : List Value) (I : zI) (L : zL) (P : zP) : Prop := zW zm_X12_fitsBy (zRm d 0 0) 0 0 Q pc lv st I L P 205 0 0
abbrev v_X12_fitsBy_138 (d : Nat) (Q : zQt) (p3 : Int32) (x4 : Int32) (x5 : Int32) (I : zI) (L : zL) (P : zP) : Prop :=
  MB I ∧
  (((nI (vN I)) ≤ x5 →
    Q (some (.int x4)) I L P 205
  ) ∧ (¬ (nI (vN I)) ≤ x5 →
    vp_in x5 64 ∧
    ((¬ (I 198 x5.toNatClampNeg) = 0 →
      ∀ I72 : zI, I72 = zuI I 160 61 ((I 160 61) ||| ((1 : Int32) <<< (((x5 >>> (p3 &&& 31) : Int32) &&& 1 : Int32) &&& 31) : Int32) : Int32) →
      gw_X12_fitsBy (d + 1) Q 138 [some (.ref 160), none, none, some (.int p3), some (.int (x4 + 1)), some (.int (x5 + 1))] [] I72 L P
    ) ∧ ((I 198 x5.toNatClampNeg) = 0 →
      gw_X12_fitsBy (d + 1) Q 138 [some (.ref 160), none, none, some (.int p3), some (.int x4), some (.int (x5 + 1))] [] I L P
    ))
  ))
set_option maxRecDepth 20000 in
theorem g_X12_fitsBy_138 {d : Nat} {Q : zQt} {p3 : Int32} {x4 : Int32} {x5 : Int32} {I : zI} {L : zL} {P : zP} (hP : zPk P) (hd : 1 ≤ d) (hv : v_X12_fitsBy_138 d Q p3 x4 x5 I L P) : gw_X12_fitsBy (d + 1) Q 138 [some (.ref 160), none, none, some (.int p3), some (.int x4), some (.int x5)] [] I L P := by
  unfold v_X12_fitsBy_138 at hv
  refine z_iload dX12_fitsBy_138 rfl ?_
  refine z_aload_n dX12_fitsBy_140 rfl ?_
  obtain ⟨h66, hv⟩ := hv
  refine z_callV (As := []) (st := [.int x5]) dX12_fitsBy_141 zl_X12_346 zv_X12_worldMany (by decide) rfl zn_160 zo_160 rfl rfl (Nat.le_of_ble_eq_true rfl) ⟨Nat.le_refl _, Nat.le_refl _⟩ ⟨Nat.le_refl _, Nat.le_refl _⟩ (sp_X12_worldMany hP h66 (by omega) (K := fun r I' L' P' => nI (vN I) = r ∧ I = I' ∧ L = L' ∧ P = P') ⟨rfl, rfl, rfl, rfl⟩) (fun v1 I2 L2 P2 nx1 q68 => ?_)
  obtain ⟨rfl, r67, rfl, rfl, rfl, rfl, rfl⟩ := q68
  refine z_icmp_ge (tgt := 186) dX12_fitsBy_144 (by decide) (fun q69 => ?_) (fun q69 => ?_)
  · have hv := hv.1 q69
    refine z_iload dX12_fitsBy_186 rfl ?_
    exact z_ireturn dX12_fitsBy_188 rfl rfl (Nat.le_refl _) (Nat.le_refl _) hv
  · have hv := hv.2 q69
    refine z_aload_n dX12_fitsBy_147 rfl ?_
    refine z_getP dX12_fitsBy_148 zf_X12_128 zn_160 zo_160 (fun _ _ _ _ _ => rfl) (hP 160 58 198 zp_160_58) ?_
    refine z_iload dX12_fitsBy_151 rfl ?_
    obtain ⟨h70, hv⟩ := hv
    refine z_zaload dX12_fitsBy_153 zn_198 zh_198 h70 ?_
    refine z_if_ne (tgt := 160) dX12_fitsBy_154 (by decide) (fun q71 => ?_) (fun q71 => ?_)
    · have hv := hv.1 q71
      refine z_iinc (v2 := x4 + 1) (lv2 := [some (.ref 160), none, none, some (.int p3), some (.int (x4 + 1)), some (.int x5)]) dX12_fitsBy_160 rfl (by rfl) (by decide) rfl rfl ?_
      refine z_aload_n dX12_fitsBy_163 rfl ?_
      refine z_dup dX12_fitsBy_164 rfl ?_
      refine z_getI dX12_fitsBy_165 zf_X12_451 zn_160 zo_160 (fun _ _ _ _ _ => rfl) ?_
      refine z_iconst (v := 1) dX12_fitsBy_168 (by decide) ?_
      refine z_iload dX12_fitsBy_169 rfl ?_
      refine z_iload_n dX12_fitsBy_171 rfl ?_
      refine z_ishr dX12_fitsBy_172 ?_
      refine z_iconst (v := 1) dX12_fitsBy_173 (by decide) ?_
      refine z_iand dX12_fitsBy_174 ?_
      refine z_ishl dX12_fitsBy_175 ?_
      refine z_ior dX12_fitsBy_176 ?_
      refine z_putI dX12_fitsBy_177 zf_X12_451 zn_160 zo_160 (Or.inl rfl) (fun _ _ _ _ _ => rfl) rfl rfl (z_nmI (fun I72 e73 => ?_))
      have hv := hv I72 e73
      refine z_iinc (v2 := x5 + 1) (lv2 := [some (.ref 160), none, none, some (.int p3), some (.int (x4 + 1)), some (.int (x5 + 1))]) dX12_fitsBy_180 rfl (by rfl) (by decide) rfl rfl ?_
      refine z_goto (tgt := 138) dX12_fitsBy_183 (by decide) ?_
      exact hv
    · have hv := hv.2 q71
      refine z_goto (tgt := 180) dX12_fitsBy_157 (by decide) ?_
      refine z_iinc (v2 := x5 + 1) (lv2 := [some (.ref 160), none, none, some (.int p3), some (.int x4), some (.int (x5 + 1))]) dX12_fitsBy_180 rfl (by rfl) (by decide) rfl rfl ?_
      refine z_goto (tgt := 138) dX12_fitsBy_183 (by decide) ?_
      exact hv
abbrev v_X12_fitsBy_112 (d : Nat) (Q : zQt) (p2 : Int32) (p3 : Int32) (x4 : Int32) (I : zI) (L : zL) (P : zP) : Prop :=
  ((12 < x4 →
    gw_X12_fitsBy (d + 1) Q 138 [some (.ref 160), none, none, some (.int p3), some (.int 0), some (.int 0)] [] I L P
  ) ∧ (¬ 12 < x4 →
    zMv zm_X12_nightOfAll d [.ref 160, .int x4, .int p2] I L P (fun I61 L62 P63 =>
      gw_X12_fitsBy (d + 1) Q 112 [some (.ref 160), none, some (.int p2), some (.int p3), some (.int (x4 + 1)), none] [] I61 L62 P63
    )
  ))
set_option maxRecDepth 20000 in
theorem g_X12_fitsBy_112 {d : Nat} {Q : zQt} {p2 : Int32} {p3 : Int32} {x4 : Int32} {I : zI} {L : zL} {P : zP} (hP : zPk P) (hd : 1 ≤ d) (hv : v_X12_fitsBy_112 d Q p2 p3 x4 I L P) : gw_X12_fitsBy (d + 1) Q 112 [some (.ref 160), none, some (.int p2), some (.int p3), some (.int x4), none] [] I L P := by
  unfold v_X12_fitsBy_112 at hv
  refine z_iload dX12_fitsBy_112 rfl ?_
  refine z_bipush (v := 12) dX12_fitsBy_114 (by decide) ?_
  refine z_icmp_gt (tgt := 132) dX12_fitsBy_116 (by decide) (fun q60 => ?_) (fun q60 => ?_)
  · have hv := hv.1 q60
    refine z_iconst (v := 0) dX12_fitsBy_132 (by decide) ?_
    refine z_istore (lv2 := [some (.ref 160), none, some (.int p2), some (.int p3), some (.int 0), none]) dX12_fitsBy_133 (by decide) rfl rfl ?_
    refine z_iconst (v := 0) dX12_fitsBy_135 (by decide) ?_
    refine z_istore (lv2 := [some (.ref 160), none, some (.int p2), some (.int p3), some (.int 0), some (.int 0)]) dX12_fitsBy_136 (by decide) rfl rfl ?_
    exact z_sub (by exact ⟨rfl, ⟨rfl, ⟨rfl, ⟨rfl, trivial⟩⟩⟩⟩) hv
  · have hv := hv.2 q60
    refine z_aload_n dX12_fitsBy_119 rfl ?_
    refine z_iload dX12_fitsBy_120 rfl ?_
    refine z_iload_n dX12_fitsBy_122 rfl ?_
    refine z_callV (As := [.int x4, .int p2]) (st := []) dX12_fitsBy_123 zl_X12_448 zv_X12_nightOfAll (by decide) rfl zn_160 zo_160 rfl rfl (Nat.le_of_ble_eq_true rfl) ⟨Nat.le_refl _, Nat.le_refl _⟩ ⟨Nat.le_refl _, Nat.le_refl _⟩ hv (fun v1 I61 L62 P63 nx1 q64 => ?_)
    obtain ⟨rfl, rfl, hv⟩ := q64
    refine z_iinc (v2 := x4 + 1) (lv2 := [some (.ref 160), none, some (.int p2), some (.int p3), some (.int (x4 + 1)), none]) dX12_fitsBy_126 rfl (by rfl) (by decide) rfl rfl ?_
    refine z_goto (tgt := 112) dX12_fitsBy_129 (by decide) ?_
    exact hv
abbrev v_X12_fitsBy_39 (d : Nat) (Q : zQt) (p1 : Int32) (p2 : Int32) (p3 : Int32) (x4 : Int32) (I : zI) (L : zL) (P : zP) : Prop :=
  MB I ∧
  (((nI (vN I)) ≤ x4 →
    gw_X12_fitsBy (d + 1) Q 112 [some (.ref 160), none, some (.int p2), some (.int p3), some (.int 1), none] [] I L P
  ) ∧ (¬ (nI (vN I)) ≤ x4 →
    ((p1 < 0 →
      (((1 : Int32) = 0 →
        vp_in x4 64 ∧
        ∀ I16 : zI, I16 = zuI I 193 x4.toNatClampNeg (-1) →
        ∀ I18 : zI, I18 = zuI I16 198 x4.toNatClampNeg 1 →
        ∀ I20 : zI, I20 = zuI I18 194 x4.toNatClampNeg 0 →
        gw_X12_fitsBy (d + 1) Q 39 [some (.ref 160), some (.int p1), some (.int p2), some (.int p3), some (.int (x4 + 1)), none] [] I20 L P
      ) ∧ (¬ (1 : Int32) = 0 →
        vp_in x4 64 ∧
        ∀ I23 : zI, I23 = zuI I 193 x4.toNatClampNeg 0 →
        ∀ I25 : zI, I25 = zuI I23 198 x4.toNatClampNeg 1 →
        ∀ I27 : zI, I27 = zuI I25 194 x4.toNatClampNeg 0 →
        gw_X12_fitsBy (d + 1) Q 39 [some (.ref 160), some (.int p1), some (.int p2), some (.int p3), some (.int (x4 + 1)), none] [] I27 L P
      ))
    ) ∧ (¬ p1 < 0 →
      vp_in x4 12288 ∧
      (((I 183 x4.toNatClampNeg) = 0 →
        (((0 : Int32) = 0 →
          vp_in x4 64 ∧
          ∀ I33 : zI, I33 = zuI I 193 x4.toNatClampNeg (-1) →
          ∀ I35 : zI, I35 = zuI I33 198 x4.toNatClampNeg 0 →
          ∀ I37 : zI, I37 = zuI I35 194 x4.toNatClampNeg 0 →
          gw_X12_fitsBy (d + 1) Q 39 [some (.ref 160), some (.int p1), some (.int p2), some (.int p3), some (.int (x4 + 1)), none] [] I37 L P
        ) ∧ (¬ (0 : Int32) = 0 →
          vp_in x4 64 ∧
          ∀ I40 : zI, I40 = zuI I 193 x4.toNatClampNeg 0 →
          ∀ I42 : zI, I42 = zuI I40 198 x4.toNatClampNeg 0 →
          ∀ I44 : zI, I44 = zuI I42 194 x4.toNatClampNeg 0 →
          gw_X12_fitsBy (d + 1) Q 39 [some (.ref 160), some (.int p1), some (.int p2), some (.int p3), some (.int (x4 + 1)), none] [] I44 L P
        ))
      ) ∧ (¬ (I 183 x4.toNatClampNeg) = 0 →
        (((1 : Int32) = 0 →
          vp_in x4 64 ∧
          ∀ I48 : zI, I48 = zuI I 193 x4.toNatClampNeg (-1) →
          ∀ I50 : zI, I50 = zuI I48 198 x4.toNatClampNeg 1 →
          ∀ I52 : zI, I52 = zuI I50 194 x4.toNatClampNeg 0 →
          gw_X12_fitsBy (d + 1) Q 39 [some (.ref 160), some (.int p1), some (.int p2), some (.int p3), some (.int (x4 + 1)), none] [] I52 L P
        ) ∧ (¬ (1 : Int32) = 0 →
          vp_in x4 64 ∧
          ∀ I55 : zI, I55 = zuI I 193 x4.toNatClampNeg 0 →
          ∀ I57 : zI, I57 = zuI I55 198 x4.toNatClampNeg 1 →
          ∀ I59 : zI, I59 = zuI I57 194 x4.toNatClampNeg 0 →
          gw_X12_fitsBy (d + 1) Q 39 [some (.ref 160), some (.int p1), some (.int p2), some (.int p3), some (.int (x4 + 1)), none] [] I59 L P
        ))
      ))
    ))
  ))
set_option maxRecDepth 20000 in
theorem g_X12_fitsBy_39 {d : Nat} {Q : zQt} {p1 : Int32} {p2 : Int32} {p3 : Int32} {x4 : Int32} {I : zI} {L : zL} {P : zP} (hP : zPk P) (hd : 1 ≤ d) (hv : v_X12_fitsBy_39 d Q p1 p2 p3 x4 I L P) : gw_X12_fitsBy (d + 1) Q 39 [some (.ref 160), some (.int p1), some (.int p2), some (.int p3), some (.int x4), none] [] I L P := by
  unfold v_X12_fitsBy_39 at hv
  refine z_iload dX12_fitsBy_39 rfl ?_
  refine z_aload_n dX12_fitsBy_41 rfl ?_
  obtain ⟨h8, hv⟩ := hv
  refine z_callV (As := []) (st := [.int x4]) dX12_fitsBy_42 zl_X12_346 zv_X12_worldMany (by decide) rfl zn_160 zo_160 rfl rfl (Nat.le_of_ble_eq_true rfl) ⟨Nat.le_refl _, Nat.le_refl _⟩ ⟨Nat.le_refl _, Nat.le_refl _⟩ (sp_X12_worldMany hP h8 (by omega) (K := fun r I' L' P' => nI (vN I) = r ∧ I = I' ∧ L = L' ∧ P = P') ⟨rfl, rfl, rfl, rfl⟩) (fun v1 I2 L2 P2 nx1 q10 => ?_)
  obtain ⟨rfl, r9, rfl, rfl, rfl, rfl, rfl⟩ := q10
  refine z_icmp_ge (tgt := 109) dX12_fitsBy_45 (by decide) (fun q11 => ?_) (fun q11 => ?_)
  · have hv := hv.1 q11
    refine z_iconst (v := 1) dX12_fitsBy_109 (by decide) ?_
    refine z_istore (lv2 := [some (.ref 160), some (.int p1), some (.int p2), some (.int p3), some (.int 1), none]) dX12_fitsBy_110 (by decide) rfl rfl ?_
    exact z_sub (by exact ⟨rfl, ⟨rfl, ⟨rfl, ⟨rfl, trivial⟩⟩⟩⟩) hv
  · have hv := hv.2 q11
    refine z_iload_n dX12_fitsBy_48 rfl ?_
    refine z_if_lt (tgt := 62) dX12_fitsBy_49 (by decide) (fun q12 => ?_) (fun q12 => ?_)
    · have hv := hv.1 q12
      refine z_iconst (v := 1) dX12_fitsBy_62 (by decide) ?_
      refine z_goto (tgt := 67) dX12_fitsBy_63 (by decide) ?_
      refine z_istore (lv2 := [some (.ref 160), some (.int p1), some (.int p2), some (.int p3), some (.int x4), some (.int 1)]) dX12_fitsBy_67 (by decide) rfl rfl ?_
      refine z_aload_n dX12_fitsBy_69 rfl ?_
      refine z_getP dX12_fitsBy_70 zf_X12_113 zn_160 zo_160 (fun _ _ _ _ _ => rfl) (hP 160 53 193 zp_160_53) ?_
      refine z_iload dX12_fitsBy_73 rfl ?_
      refine z_iload dX12_fitsBy_75 rfl ?_
      refine z_if_eq (tgt := 84) dX12_fitsBy_77 (by decide) (fun q13 => ?_) (fun q13 => ?_)
      · have hv := hv.1 q13
        refine z_iconst (v := (-1)) dX12_fitsBy_84 (by decide) ?_
        obtain ⟨h14, hv⟩ := hv
        refine z_iastore dX12_fitsBy_85 zn_193 zh_193 h14 (z_nmI (fun I16 e15 => ?_))
        have hv := hv I16 e15
        refine z_aload_n dX12_fitsBy_86 rfl ?_
        refine z_getP dX12_fitsBy_87 zf_X12_128 zn_160 zo_160 (fun _ _ _ _ _ => rfl) (hP 160 58 198 zp_160_58) ?_
        refine z_iload dX12_fitsBy_90 rfl ?_
        refine z_iload dX12_fitsBy_92 rfl ?_
        refine z_zastore (w := 1) dX12_fitsBy_94 zn_198 zh_198 h14 (by decide) (z_nmI (fun I18 e17 => ?_))
        have hv := hv I18 e17
        refine z_aload_n dX12_fitsBy_95 rfl ?_
        refine z_getP dX12_fitsBy_96 zf_X12_116 zn_160 zo_160 (fun _ _ _ _ _ => rfl) (hP 160 54 194 zp_160_54) ?_
        refine z_iload dX12_fitsBy_99 rfl ?_
        refine z_iconst (v := 0) dX12_fitsBy_101 (by decide) ?_
        refine z_iastore dX12_fitsBy_102 zn_194 zh_194 h14 (z_nmI (fun I20 e19 => ?_))
        have hv := hv I20 e19
        refine z_iinc (v2 := x4 + 1) (lv2 := [some (.ref 160), some (.int p1), some (.int p2), some (.int p3), some (.int (x4 + 1)), some (.int 1)]) dX12_fitsBy_103 rfl (by rfl) (by decide) rfl rfl ?_
        refine z_goto (tgt := 39) dX12_fitsBy_106 (by decide) ?_
        exact z_sub (by exact ⟨rfl, ⟨rfl, ⟨rfl, ⟨rfl, ⟨rfl, trivial⟩⟩⟩⟩⟩) hv
      · have hv := hv.2 q13
        refine z_iconst (v := 0) dX12_fitsBy_80 (by decide) ?_
        refine z_goto (tgt := 85) dX12_fitsBy_81 (by decide) ?_
        obtain ⟨h21, hv⟩ := hv
        refine z_iastore dX12_fitsBy_85 zn_193 zh_193 h21 (z_nmI (fun I23 e22 => ?_))
        have hv := hv I23 e22
        refine z_aload_n dX12_fitsBy_86 rfl ?_
        refine z_getP dX12_fitsBy_87 zf_X12_128 zn_160 zo_160 (fun _ _ _ _ _ => rfl) (hP 160 58 198 zp_160_58) ?_
        refine z_iload dX12_fitsBy_90 rfl ?_
        refine z_iload dX12_fitsBy_92 rfl ?_
        refine z_zastore (w := 1) dX12_fitsBy_94 zn_198 zh_198 h21 (by decide) (z_nmI (fun I25 e24 => ?_))
        have hv := hv I25 e24
        refine z_aload_n dX12_fitsBy_95 rfl ?_
        refine z_getP dX12_fitsBy_96 zf_X12_116 zn_160 zo_160 (fun _ _ _ _ _ => rfl) (hP 160 54 194 zp_160_54) ?_
        refine z_iload dX12_fitsBy_99 rfl ?_
        refine z_iconst (v := 0) dX12_fitsBy_101 (by decide) ?_
        refine z_iastore dX12_fitsBy_102 zn_194 zh_194 h21 (z_nmI (fun I27 e26 => ?_))
        have hv := hv I27 e26
        refine z_iinc (v2 := x4 + 1) (lv2 := [some (.ref 160), some (.int p1), some (.int p2), some (.int p3), some (.int (x4 + 1)), some (.int 1)]) dX12_fitsBy_103 rfl (by rfl) (by decide) rfl rfl ?_
        refine z_goto (tgt := 39) dX12_fitsBy_106 (by decide) ?_
        exact z_sub (by exact ⟨rfl, ⟨rfl, ⟨rfl, ⟨rfl, ⟨rfl, trivial⟩⟩⟩⟩⟩) hv
    · have hv := hv.2 q12
      refine z_aload_n dX12_fitsBy_52 rfl ?_
      refine z_getP dX12_fitsBy_53 zf_X12_83 zn_160 zo_160 (fun _ _ _ _ _ => rfl) (hP 160 41 183 zp_160_41) ?_
      refine z_iload dX12_fitsBy_56 rfl ?_
      obtain ⟨h28, hv⟩ := hv
      refine z_iaload dX12_fitsBy_58 zn_183 zh_183 h28 ?_
      refine z_if_eq (tgt := 66) dX12_fitsBy_59 (by decide) (fun q29 => ?_) (fun q29 => ?_)
      · have hv := hv.1 q29
        refine z_iconst (v := 0) dX12_fitsBy_66 (by decide) ?_
        refine z_istore (lv2 := [some (.ref 160), some (.int p1), some (.int p2), some (.int p3), some (.int x4), some (.int 0)]) dX12_fitsBy_67 (by decide) rfl rfl ?_
        refine z_aload_n dX12_fitsBy_69 rfl ?_
        refine z_getP dX12_fitsBy_70 zf_X12_113 zn_160 zo_160 (fun _ _ _ _ _ => rfl) (hP 160 53 193 zp_160_53) ?_
        refine z_iload dX12_fitsBy_73 rfl ?_
        refine z_iload dX12_fitsBy_75 rfl ?_
        refine z_if_eq (tgt := 84) dX12_fitsBy_77 (by decide) (fun q30 => ?_) (fun q30 => ?_)
        · have hv := hv.1 q30
          refine z_iconst (v := (-1)) dX12_fitsBy_84 (by decide) ?_
          obtain ⟨h31, hv⟩ := hv
          refine z_iastore dX12_fitsBy_85 zn_193 zh_193 h31 (z_nmI (fun I33 e32 => ?_))
          have hv := hv I33 e32
          refine z_aload_n dX12_fitsBy_86 rfl ?_
          refine z_getP dX12_fitsBy_87 zf_X12_128 zn_160 zo_160 (fun _ _ _ _ _ => rfl) (hP 160 58 198 zp_160_58) ?_
          refine z_iload dX12_fitsBy_90 rfl ?_
          refine z_iload dX12_fitsBy_92 rfl ?_
          refine z_zastore (w := 0) dX12_fitsBy_94 zn_198 zh_198 h31 (by decide) (z_nmI (fun I35 e34 => ?_))
          have hv := hv I35 e34
          refine z_aload_n dX12_fitsBy_95 rfl ?_
          refine z_getP dX12_fitsBy_96 zf_X12_116 zn_160 zo_160 (fun _ _ _ _ _ => rfl) (hP 160 54 194 zp_160_54) ?_
          refine z_iload dX12_fitsBy_99 rfl ?_
          refine z_iconst (v := 0) dX12_fitsBy_101 (by decide) ?_
          refine z_iastore dX12_fitsBy_102 zn_194 zh_194 h31 (z_nmI (fun I37 e36 => ?_))
          have hv := hv I37 e36
          refine z_iinc (v2 := x4 + 1) (lv2 := [some (.ref 160), some (.int p1), some (.int p2), some (.int p3), some (.int (x4 + 1)), some (.int 0)]) dX12_fitsBy_103 rfl (by rfl) (by decide) rfl rfl ?_
          refine z_goto (tgt := 39) dX12_fitsBy_106 (by decide) ?_
          exact z_sub (by exact ⟨rfl, ⟨rfl, ⟨rfl, ⟨rfl, ⟨rfl, trivial⟩⟩⟩⟩⟩) hv
        · have hv := hv.2 q30
          refine z_iconst (v := 0) dX12_fitsBy_80 (by decide) ?_
          refine z_goto (tgt := 85) dX12_fitsBy_81 (by decide) ?_
          obtain ⟨h38, hv⟩ := hv
          refine z_iastore dX12_fitsBy_85 zn_193 zh_193 h38 (z_nmI (fun I40 e39 => ?_))
          have hv := hv I40 e39
          refine z_aload_n dX12_fitsBy_86 rfl ?_
          refine z_getP dX12_fitsBy_87 zf_X12_128 zn_160 zo_160 (fun _ _ _ _ _ => rfl) (hP 160 58 198 zp_160_58) ?_
          refine z_iload dX12_fitsBy_90 rfl ?_
          refine z_iload dX12_fitsBy_92 rfl ?_
          refine z_zastore (w := 0) dX12_fitsBy_94 zn_198 zh_198 h38 (by decide) (z_nmI (fun I42 e41 => ?_))
          have hv := hv I42 e41
          refine z_aload_n dX12_fitsBy_95 rfl ?_
          refine z_getP dX12_fitsBy_96 zf_X12_116 zn_160 zo_160 (fun _ _ _ _ _ => rfl) (hP 160 54 194 zp_160_54) ?_
          refine z_iload dX12_fitsBy_99 rfl ?_
          refine z_iconst (v := 0) dX12_fitsBy_101 (by decide) ?_
          refine z_iastore dX12_fitsBy_102 zn_194 zh_194 h38 (z_nmI (fun I44 e43 => ?_))
          have hv := hv I44 e43
          refine z_iinc (v2 := x4 + 1) (lv2 := [some (.ref 160), some (.int p1), some (.int p2), some (.int p3), some (.int (x4 + 1)), some (.int 0)]) dX12_fitsBy_103 rfl (by rfl) (by decide) rfl rfl ?_
          refine z_goto (tgt := 39) dX12_fitsBy_106 (by decide) ?_
          exact z_sub (by exact ⟨rfl, ⟨rfl, ⟨rfl, ⟨rfl, ⟨rfl, trivial⟩⟩⟩⟩⟩) hv
      · have hv := hv.2 q29
        refine z_iconst (v := 1) dX12_fitsBy_62 (by decide) ?_
        refine z_goto (tgt := 67) dX12_fitsBy_63 (by decide) ?_
        refine z_istore (lv2 := [some (.ref 160), some (.int p1), some (.int p2), some (.int p3), some (.int x4), some (.int 1)]) dX12_fitsBy_67 (by decide) rfl rfl ?_
        refine z_aload_n dX12_fitsBy_69 rfl ?_
        refine z_getP dX12_fitsBy_70 zf_X12_113 zn_160 zo_160 (fun _ _ _ _ _ => rfl) (hP 160 53 193 zp_160_53) ?_
        refine z_iload dX12_fitsBy_73 rfl ?_
        refine z_iload dX12_fitsBy_75 rfl ?_
        refine z_if_eq (tgt := 84) dX12_fitsBy_77 (by decide) (fun q45 => ?_) (fun q45 => ?_)
        · have hv := hv.1 q45
          refine z_iconst (v := (-1)) dX12_fitsBy_84 (by decide) ?_
          obtain ⟨h46, hv⟩ := hv
          refine z_iastore dX12_fitsBy_85 zn_193 zh_193 h46 (z_nmI (fun I48 e47 => ?_))
          have hv := hv I48 e47
          refine z_aload_n dX12_fitsBy_86 rfl ?_
          refine z_getP dX12_fitsBy_87 zf_X12_128 zn_160 zo_160 (fun _ _ _ _ _ => rfl) (hP 160 58 198 zp_160_58) ?_
          refine z_iload dX12_fitsBy_90 rfl ?_
          refine z_iload dX12_fitsBy_92 rfl ?_
          refine z_zastore (w := 1) dX12_fitsBy_94 zn_198 zh_198 h46 (by decide) (z_nmI (fun I50 e49 => ?_))
          have hv := hv I50 e49
          refine z_aload_n dX12_fitsBy_95 rfl ?_
          refine z_getP dX12_fitsBy_96 zf_X12_116 zn_160 zo_160 (fun _ _ _ _ _ => rfl) (hP 160 54 194 zp_160_54) ?_
          refine z_iload dX12_fitsBy_99 rfl ?_
          refine z_iconst (v := 0) dX12_fitsBy_101 (by decide) ?_
          refine z_iastore dX12_fitsBy_102 zn_194 zh_194 h46 (z_nmI (fun I52 e51 => ?_))
          have hv := hv I52 e51
          refine z_iinc (v2 := x4 + 1) (lv2 := [some (.ref 160), some (.int p1), some (.int p2), some (.int p3), some (.int (x4 + 1)), some (.int 1)]) dX12_fitsBy_103 rfl (by rfl) (by decide) rfl rfl ?_
          refine z_goto (tgt := 39) dX12_fitsBy_106 (by decide) ?_
          exact z_sub (by exact ⟨rfl, ⟨rfl, ⟨rfl, ⟨rfl, ⟨rfl, trivial⟩⟩⟩⟩⟩) hv
        · have hv := hv.2 q45
          refine z_iconst (v := 0) dX12_fitsBy_80 (by decide) ?_
          refine z_goto (tgt := 85) dX12_fitsBy_81 (by decide) ?_
          obtain ⟨h53, hv⟩ := hv
          refine z_iastore dX12_fitsBy_85 zn_193 zh_193 h53 (z_nmI (fun I55 e54 => ?_))
          have hv := hv I55 e54
          refine z_aload_n dX12_fitsBy_86 rfl ?_
          refine z_getP dX12_fitsBy_87 zf_X12_128 zn_160 zo_160 (fun _ _ _ _ _ => rfl) (hP 160 58 198 zp_160_58) ?_
          refine z_iload dX12_fitsBy_90 rfl ?_
          refine z_iload dX12_fitsBy_92 rfl ?_
          refine z_zastore (w := 1) dX12_fitsBy_94 zn_198 zh_198 h53 (by decide) (z_nmI (fun I57 e56 => ?_))
          have hv := hv I57 e56
          refine z_aload_n dX12_fitsBy_95 rfl ?_
          refine z_getP dX12_fitsBy_96 zf_X12_116 zn_160 zo_160 (fun _ _ _ _ _ => rfl) (hP 160 54 194 zp_160_54) ?_
          refine z_iload dX12_fitsBy_99 rfl ?_
          refine z_iconst (v := 0) dX12_fitsBy_101 (by decide) ?_
          refine z_iastore dX12_fitsBy_102 zn_194 zh_194 h53 (z_nmI (fun I59 e58 => ?_))
          have hv := hv I59 e58
          refine z_iinc (v2 := x4 + 1) (lv2 := [some (.ref 160), some (.int p1), some (.int p2), some (.int p3), some (.int (x4 + 1)), some (.int 1)]) dX12_fitsBy_103 rfl (by rfl) (by decide) rfl rfl ?_
          refine z_goto (tgt := 39) dX12_fitsBy_106 (by decide) ?_
          exact z_sub (by exact ⟨rfl, ⟨rfl, ⟨rfl, ⟨rfl, ⟨rfl, trivial⟩⟩⟩⟩⟩) hv
abbrev v_X12_fitsBy (d : Nat) (Q : zQt) (p1 : Int32) (p2 : Int32) (p3 : Int32) (I : zI) (L : zL) (P : zP) : Prop :=
  ((p1 < 0 →
    gw_X12_fitsBy (d + 1) Q 39 [some (.ref 160), some (.int p1), some (.int p2), some (.int p3), some (.int 0), none] [] I L P
  ) ∧ (¬ p1 < 0 →
    vp_in (((6 : Int32) * (I 160 28)) + p1) 12 ∧
    zMv zm_X12_work d [.ref 160, .int (I 169 (((6 : Int32) * (I 160 28)) + p1).toNatClampNeg), .int (I 170 (((6 : Int32) * (I 160 28)) + p1).toNatClampNeg)] I L P (fun I3 L4 P5 =>
      gw_X12_fitsBy (d + 1) Q 39 [some (.ref 160), some (.int p1), some (.int p2), some (.int p3), some (.int 0), none] [] I3 L4 P5
    )
  ))
set_option maxRecDepth 20000 in
theorem g_X12_fitsBy {d : Nat} {Q : zQt} {p1 : Int32} {p2 : Int32} {p3 : Int32} {I : zI} {L : zL} {P : zP} (hP : zPk P) (hd : 1 ≤ d) (hv : v_X12_fitsBy d Q p1 p2 p3 I L P) : zM zm_X12_fitsBy (d + 1) 0 0 [.ref 160, .int p1, .int p2, .int p3] I L P 205 Q := by
  unfold v_X12_fitsBy at hv
  refine zM_of (lv0 := [some (.ref 160), some (.int p1), some (.int p2), some (.int p3), none, none]) (by decide +kernel) (Nat.le_of_ble_eq_true rfl) rfl ?_
  refine z_iload_n dX12_fitsBy_0 rfl ?_
  refine z_if_lt (tgt := 36) dX12_fitsBy_1 (by decide) (fun q1 => ?_) (fun q1 => ?_)
  · have hv := hv.1 q1
    refine z_iconst (v := 0) dX12_fitsBy_36 (by decide) ?_
    refine z_istore (lv2 := [some (.ref 160), some (.int p1), some (.int p2), some (.int p3), some (.int 0), none]) dX12_fitsBy_37 (by decide) rfl rfl ?_
    exact hv
  · have hv := hv.2 q1
    refine z_aload_n dX12_fitsBy_4 rfl ?_
    refine z_aload_n dX12_fitsBy_5 rfl ?_
    refine z_getP dX12_fitsBy_6 zf_X12_39 zn_160 zo_160 (fun _ _ _ _ _ => rfl) (hP 160 17 169 zp_160_17) ?_
    refine z_bipush (v := 6) dX12_fitsBy_9 (by decide) ?_
    refine z_aload_n dX12_fitsBy_11 rfl ?_
    refine z_getI dX12_fitsBy_12 zf_X12_261 zn_160 zo_160 (fun _ _ _ _ _ => rfl) ?_
    refine z_imul dX12_fitsBy_15 ?_
    refine z_iload_n dX12_fitsBy_16 rfl ?_
    refine z_iadd dX12_fitsBy_17 ?_
    obtain ⟨h2, hv⟩ := hv
    refine z_iaload dX12_fitsBy_18 zn_169 zh_169 h2 ?_
    refine z_aload_n dX12_fitsBy_19 rfl ?_
    refine z_getP dX12_fitsBy_20 zf_X12_42 zn_160 zo_160 (fun _ _ _ _ _ => rfl) (hP 160 18 170 zp_160_18) ?_
    refine z_bipush (v := 6) dX12_fitsBy_23 (by decide) ?_
    refine z_aload_n dX12_fitsBy_25 rfl ?_
    refine z_getI dX12_fitsBy_26 zf_X12_261 zn_160 zo_160 (fun _ _ _ _ _ => rfl) ?_
    refine z_imul dX12_fitsBy_29 ?_
    refine z_iload_n dX12_fitsBy_30 rfl ?_
    refine z_iadd dX12_fitsBy_31 ?_
    refine z_iaload dX12_fitsBy_32 zn_170 zh_170 h2 ?_
    refine z_callV (As := [.int (I 169 (((6 : Int32) * (I 160 28)) + p1).toNatClampNeg), .int (I 170 (((6 : Int32) * (I 160 28)) + p1).toNatClampNeg)]) (st := []) dX12_fitsBy_33 zl_X12_407 zv_X12_work (by decide) rfl zn_160 zo_160 rfl rfl (Nat.le_of_ble_eq_true rfl) ⟨Nat.le_refl _, Nat.le_refl _⟩ ⟨Nat.le_refl _, Nat.le_refl _⟩ hv (fun v1 I3 L4 P5 nx1 q6 => ?_)
    obtain ⟨rfl, rfl, hv⟩ := q6
    refine z_iconst (v := 0) dX12_fitsBy_36 (by decide) ?_
    refine z_istore (lv2 := [some (.ref 160), some (.int p1), some (.int p2), some (.int p3), some (.int 0), none]) dX12_fitsBy_37 (by decide) rfl rfl ?_
    exact hv
section FB
variable {d : Nat} {Q : zQt} {I0 : zI} {L : zL} {P : zP} {k : Int32}
theorem lp_X12_fitsBy_138 {J : zI} {S : Nat → Prop} {p m : Nat} (hP : zPk P) (hB : MB J) (h6 : vNp J ≤ 6) (hp : p < 31) (hd : 1 ≤ d) (hS : ∀ w, w < vN J → J 198 w = bP (S w))
    (kk : ∀ I, zFr [] [61] J I → I 160 61 = nI (m ||| fMk S p (vN J)) → Q (some (.int (nI (cP S (vN J))))) I L P 205) :
    ∀ n i I, i + n = vN J → zFr [] [61] J I → I 160 61 = nI (m ||| fMk S p i) → gw_X12_fitsBy (d + 1) Q 138 [some (.ref 160), none, none, some (.int (nI p)), some (.int (nI (cP S i))), some (.int (nI i))] [] I L P := by
  have hN := vN_64 h6
  intro n
  induction n with
  | zero =>
    intro i I hi hf h1
    have : i = vN J := by omega
    subst this
    have eN := vN_fr hf (by decide) (by decide)
    exact g_X12_fitsBy_138 hP (by omega) ⟨MB_fr hf (by decide) (by decide) hB, fun _ => kk I hf h1, fun q => absurd (by rw [eN]; exact nI_le (Nat.le_refl _) (by omega)) q⟩
  | succ n ih =>
    intro i I hi hf h1
    have eN := vN_fr hf (by decide) (by decide)
    have e198 := hf.1 198 (by decide) (by decide)
    refine g_X12_fitsBy_138 hP (by omega) ⟨MB_fr hf (by decide) (by decide) hB, fun q => absurd q (by rw [eN]; exact nI_ge (by omega) (by omega)), fun _ => ⟨nx_in (by omega) (by decide), fun q I1 e1 => ?_, fun q => ?_⟩⟩
    · rw [nI_cl (by omega), e198, hS i (by omega), bP_n] at q
      subst e1
      have e : ((1 : Int32) <<< (((nI i >>> (nI p &&& 31) : Int32) &&& 1 : Int32) &&& 31) : Int32) = nI (if i.testBit p = true then 2 else 1) := by
        rw [nx_bit (by omega) hp]
        by_cases hb : i.testBit p = true
        · rw [bP_t hb, if_pos hb]; rfl
        · rw [bP_f hb, if_neg hb]; rfl
      rw [nI_1, nI_1, e, h1, nx_or, ← cP_t (f := S) q]
      refine ih (i + 1) _ (by omega) (zFr_s hf (by decide)) ?_
      rw [zuI_v]
      refine nIe ?_
      show _ = m ||| (fMk S p i ||| (@ite _ (S i) (Classical.propDecidable _) (if i.testBit p = true then 2 else 1) 0))
      rw [if_pos q, Nat.or_assoc]
    · rw [nI_cl (by omega), e198, hS i (by omega), bP_0] at q
      rw [nI_1, ← cP_f (f := S) q]
      refine ih (i + 1) I (by omega) hf ?_
      rw [h1]
      refine nIe ?_
      show _ = m ||| (fMk S p i ||| (@ite _ (S i) (Classical.propDecidable _) (if i.testBit p = true then 2 else 1) 0))
      rw [if_neg q, Nat.or_zero]
theorem lp_X12_fitsBy_112 {J : zI} {inn : Nat → Prop} {p : Nat} (hP : zPk P) (hE : ME I0) (hH : MH I0) (h6 : vNp I0 ≤ 6) (hd : 5 ≤ d)
    (kk : ∀ I, fSt I0 I inn (fNN I0 inn 12).1 (fNN I0 inn 12).2 (fFi I0 inn k 12) → zFr fC [] J I → gw_X12_fitsBy (d + 1) Q 138 [some (.ref 160), none, none, some (.int (nI p)), some (.int 0), some (.int 0)] [] I L P) :
    ∀ n j I, j + n = 12 → fSt I0 I inn (fNN I0 inn j).1 (fNN I0 inn j).2 (fFi I0 inn k j) → zFr fC [] J I → gw_X12_fitsBy (d + 1) Q 112 [some (.ref 160), none, some (.int k), some (.int (nI p)), some (.int (nI (j + 1))), none] [] I L P := by
  intro n
  induction n with
  | zero =>
    intro j I hj h hf
    have : j = 12 := by omega
    subst this
    exact g_X12_fitsBy_112 hP (by omega) ⟨fun _ => kk I h hf, fun q => absurd (by decide) q⟩
  | succ n ih =>
    intro j I hj h hf
    refine g_X12_fitsBy_112 hP (by omega) ⟨fun q => absurd q ?_, fun _ => sp_X12_nightOfAll hP hE hH h6 hd h (fun I' h' hf' => ?_)⟩
    · rw [show (12 : Int32) = nI 12 from rfl, nI_ltI (by decide) (by omega)]; omega
    · rw [nI_1]
      refine ih (j + 1) I' (by omega) (fSt_c h' (fun w => ?_)) (zFr_tr hf hf')
      constructor
      · rintro ⟨⟨h1, h2⟩, h3⟩
        refine ⟨h1, fun i hi s hs => ?_⟩
        rcases Nat.lt_succ_iff_lt_or_eq.mp hi with z | z
        · exact h2 i z s hs
        · subst z; exact h3 s hs
      · rintro ⟨h1, h2⟩
        exact ⟨⟨h1, fun i hi => h2 i (by omega)⟩, fun s hs => h2 j (by omega) s hs⟩
theorem lp_X12_fitsBy_39 {J : zI} {inn : Nat → Prop} {p1 : Int32} {p : Nat} (hP : zPk P) (hB : MB J) (h6 : vNp J ≤ 6) (hd : 1 ≤ d) (hi1 : p1 < 0 → ∀ w, w < vN J → inn w) (hi2 : ¬ p1 < 0 → ∀ w, w < vN J → (¬ J 183 w = 0 ↔ inn w))
    (kk : ∀ I, zFr [193, 194, 198] [] J I → (∀ w, w < vN J → I 193 w = (@ite _ (inn w) (Classical.propDecidable _) 0 (-1)) ∧ I 194 w = 0 ∧ I 198 w = bP (inn w)) → gw_X12_fitsBy (d + 1) Q 112 [some (.ref 160), none, some (.int k), some (.int (nI p)), some (.int 1), none] [] I L P) :
    ∀ n i I, i + n = vN J → zFr [193, 194, 198] [] J I → (∀ w, w < i → I 193 w = (@ite _ (inn w) (Classical.propDecidable _) 0 (-1)) ∧ I 194 w = 0 ∧ I 198 w = bP (inn w)) → gw_X12_fitsBy (d + 1) Q 39 [some (.ref 160), some (.int p1), some (.int k), some (.int (nI p)), some (.int (nI i)), none] [] I L P := by
  have hN := vN_64 h6
  intro n
  induction n with
  | zero =>
    intro i I hi hf h1
    have : i = vN J := by omega
    subst this
    have eN := vN_fr hf (by decide) (by decide)
    exact g_X12_fitsBy_39 hP (by omega) ⟨MB_fr hf (by decide) (by decide) hB, fun _ => kk I hf h1, fun q => absurd (by rw [eN]; exact nI_le (Nat.le_refl _) (by omega)) q⟩
  | succ n ih =>
    intro i I hi hf h1
    have eN := vN_fr hf (by decide) (by decide)
    have e183 := hf.1 183 (by decide) (by decide)
    have next : ∀ a b : Int32, a = (@ite _ (inn i) (Classical.propDecidable _) 0 (-1)) → b = bP (inn i) → ∀ I1, I1 = zuI I 193 (nI i).toNatClampNeg a → ∀ I2, I2 = zuI I1 198 (nI i).toNatClampNeg b → ∀ I3, I3 = zuI I2 194 (nI i).toNatClampNeg 0 →
        gw_X12_fitsBy (d + 1) Q 39 [some (.ref 160), some (.int p1), some (.int k), some (.int (nI p)), some (.int (nI i + 1)), none] [] I3 L P := by
      intro a b ea eb I1 e1 I2 e2 I3 e3
      rw [nI_cl (by omega)] at e1 e2 e3
      subst e1
      subst e2
      subst e3
      rw [nI_1]
      refine ih (i + 1) _ (by omega) (zFr_c (zFr_c (zFr_c hf (by decide) (by decide)) (by decide) (by decide)) (by decide) (by decide)) (fun w hw => ?_)
      rcases Nat.lt_succ_iff_lt_or_eq.mp hw with h | h
      · rw [zuI_ne (show (193 : Nat) ≠ 194 by decide), zuI_ne (show (193 : Nat) ≠ 198 by decide), zuI_o (by omega), zuI_o (by omega), zuI_ne (show (194 : Nat) ≠ 198 by decide), zuI_ne (show (194 : Nat) ≠ 193 by decide), zuI_ne (show (198 : Nat) ≠ 194 by decide), zuI_o (by omega), zuI_ne (show (198 : Nat) ≠ 193 by decide)]
        exact h1 w h
      · subst h
        rw [zuI_ne (show (193 : Nat) ≠ 194 by decide), zuI_ne (show (193 : Nat) ≠ 198 by decide), zuI_v, zuI_v, zuI_ne (show (198 : Nat) ≠ 194 by decide), zuI_v]
        exact ⟨ea, rfl, eb⟩
    refine g_X12_fitsBy_39 hP (by omega) ⟨MB_fr hf (by decide) (by decide) hB, fun q => absurd q (by rw [eN]; exact nI_ge (by omega) (by omega)), fun _ => ⟨fun q => ?_, fun q => ?_⟩⟩
    · have hin := hi1 q i (by omega)
      exact ⟨fun z => absurd z (by decide), fun _ => ⟨nx_in (by omega) (by decide), next 0 1 (if_pos hin).symm (bP_t hin).symm⟩⟩
    · have hin := hi2 q i (by omega)
      refine ⟨nx_in (by omega) (by decide), fun q2 => ?_, fun q2 => ?_⟩
      · rw [nI_cl (by omega), e183] at q2
        have hin : ¬ inn i := fun z => hin.mpr z q2
        exact ⟨fun _ => ⟨nx_in (by omega) (by decide), next (-1) 0 (if_neg hin).symm (bP_f hin).symm⟩, fun z => absurd rfl z⟩
      · rw [nI_cl (by omega), e183] at q2
        have hin := hin.mp q2
        exact ⟨fun z => absurd z (by decide), fun _ => ⟨nx_in (by omega) (by decide), next 0 1 (if_pos hin).symm (bP_t hin).symm⟩⟩
end FB
/-- all is as at first -/
def fBg (I : zI) : Prop := ME I ∧ MC I ∧ MH I ∧ (∀ w, w < vN I → I 180 w = 1) ∧ vNw I = 0 ∧ I 160 40 = nI 0 ∧ vNp I ≤ 6
theorem fBg_row {I : zI} (h : fBg I) {i : Nat} (hi : i < vNs I) {w : Nat} (hw : w < vN I) : eVal I (vSy I i) w = fRw I (vSy I i) w := by
  obtain ⟨hE, hC, hH, hA, hW, hG, h6⟩ := h
  unfold eVal fRw
  rw [hG]
  refine eRun_ag (T := fun _ => True) (fun _ _ _ => trivial) (fun w hw => ?_) (fun p a b _ _ _ _ _ => ?_) hE.1.2.1 _ 0 _ _ (hC.2.2 i hi).2.2.2.1 (fun j _ hj => absurd hj (Nat.not_lt_zero j)) 0 w (by rw [(hC.2.2 i hi).2.2.2.2]; decide) hw trivial
  · unfold vPoss; rw [hA w hw]; exact ⟨fun _ => hw, fun _ => by decide⟩
  · unfold vLike; rw [hW]; exact ⟨fun z => z.1, fun z => ⟨z, fun k hk => absurd hk (Nat.not_lt_zero k)⟩⟩
theorem fIn_0 {I0 I : zI} : fIn I0 0 = fun _ => True := rfl
/-- one saying, or nothing -/
theorem sp_X12_fitsBy {d : Nat} {I0 I : zI} {L : zL} {P : zP} {k x : Int32} {s p m : Nat} (hP : zPk P) (hB : fBg I0) (hs : (s = 0 ∧ x = -1) ∨ (∃ i, s = i + 1 ∧ i < vNs I0 ∧ x = nI i)) (hp : p < 31) (hd : 8 ≤ d) (hf : zFr fD [46, 61] I0 I) (hM : MP I) (hm : I 160 61 = nI m) {K : Int32 → zI → zL → zP → Prop}
    (kk : ∀ I', zFr fD [46, 61] I0 I' → MP I' → I' 160 61 = nI (m ||| fMk (fFi I0 (fIn I0 s) k 12) p (vN I0)) → K (nI (cP (fFi I0 (fIn I0 s) k 12) (vN I0))) I' L P) : zMi zm_X12_fitsBy d [.ref 160, .int x, .int k, .int (nI p)] I L P K := by
  obtain ⟨d, rfl⟩ : ∃ e, d = e + 1 := ⟨d - 1, by omega⟩
  have hB' := hB
  obtain ⟨hE, hC, hH, hA, hW, hG, h6⟩ := hB
  have hN := vN_64 h6
  have main : ∀ J, zFr fD [46, 61] I0 J → MP J → J 160 61 = nI m → (x < 0 → ∀ w, w < vN J → fIn I0 s w) → (¬ x < 0 → ∀ w, w < vN J → (¬ J 183 w = 0 ↔ fIn I0 s w)) →
      gw_X12_fitsBy (d + 1) (fun v I' L' P' nx' => nx' = 205 ∧ ∃ r', v = some (.int r') ∧ K r' I' L' P') 39 [some (.ref 160), some (.int x), some (.int k), some (.int (nI p)), some (.int 0), none] [] J L P := by
    intro J fJ MJ mJ h1 h2
    have eN := vN_fr fJ (by decide) (by decide)
    have eP := vNp_fr fJ (by decide) (by decide)
    refine lp_X12_fitsBy_39 hP (MB_fr fJ (by decide) (by decide) hE.1) (by omega) (by omega) h1 h2 (fun I1 a1 a2 => ?_) (vN J) 0 J (by omega) (zFr_rf _ _ _) (fun w hw => absurd hw (Nat.not_lt_zero w))
    refine lp_X12_fitsBy_112 (J := I1) (inn := fIn I0 s) hP hE hH h6 (by omega) (fun I2 b1 b2 => ?_) 12 0 I1 rfl ⟨zFr_tr fJ (zFr_wk a1 (by decide) (by decide)), fun w hw => ?_, fun v w hv hw hin => ?_, fun w hw => ⟨(a2 w (by omega)).2.1, by show 0 < 256; decide⟩, fun w hw => ?_⟩ (zFr_rf _ _ _)
    · have f2 := zFr_tr fJ (zFr_tr (zFr_wk a1 (by decide) (by decide)) (zFr_wk b2 (by decide) (by decide)))
      have eN2 := vN_fr f2 (by decide) (by decide)
      have eP2 := vNp_fr f2 (by decide) (by decide)
      have key := lp_X12_fitsBy_138 (J := I2) (Q := (fun v I' L' P' nx' => nx' = 205 ∧ ∃ r', v = some (.int r') ∧ K r' I' L' P')) (L := L) (S := fFi I0 (fIn I0 s) k 12) (p := p) (m := m) hP (MB_fr f2 (by decide) (by decide) hE.1) (by omega) hp (show 1 ≤ d by omega) (fun w hw => b1.2.2.2.2 w (by omega)) (fun I3 c1 c2 => ?_) (vN I2) 0 I2 (by omega) (zFr_rf _ _ _) ?_
      · exact key
      · rw [eN2] at c2
        rw [eN2]
        refine qi (kk I3 (zFr_tr f2 (zFr_wk c1 (by decide) (by decide))) ?_ c2)
        refine MP_fr (zFr_tr (zFr_wk a1 (by decide) (by decide)) (zFr_tr (zFr_wk b2 (by decide) (by decide)) (zFr_wk c1 (by decide) (by decide))) : zFr fC [61] J I3) (by decide) (by decide) (by decide) (by decide) (by decide) (by decide) (by decide) (by decide) (by decide) MJ
      · rw [b2.2 61 (by decide), a1.2 61 (by decide), mJ]
        exact nIe (Nat.or_zero _).symm
    · rw [(a2 w (by omega)).1]
      by_cases hin : fIn I0 s w
      · rw [if_pos hin]; exact ⟨fun _ => hin, fun _ => by decide⟩
      · rw [if_neg hin]; exact ⟨fun z => absurd z (by decide), fun z => absurd z hin⟩
    · rw [(a2 v (by omega)).1, (a2 w (by omega)).1, if_pos hin]
      show _ ↔ fIn I0 s v
      by_cases hv : fIn I0 s v
      · rw [if_pos hv]; exact ⟨fun _ => hv, fun _ => rfl⟩
      · rw [if_neg hv]; exact ⟨fun z => absurd z (by decide), fun z => absurd z hv⟩
    · rw [(a2 w (by omega)).2.2]
      exact bP_c ⟨fun h => ⟨h, fun j hj => absurd hj (Nat.not_lt_zero j)⟩, fun h => h.1⟩
  have hbk := hE.1.1.1
  have eB := vB_fr hf (show 28 ∉ [46, 61] by decide)
  have hE1 := ME_fr hf (by decide) (by decide) (by decide) (by decide) (by decide) hE
  rcases hs with ⟨rfl, rfl⟩ | ⟨i, rfl, hi, rfl⟩
  · refine g_X12_fitsBy hP (by omega) ⟨fun _ => main I hf hM hm (fun _ _ _ => trivial) (fun q => absurd (by decide) q), fun q => absurd (by decide) q⟩
  · have hns := hC.1
    obtain ⟨c1, c2, c3, c4⟩ := hC.2.2 i hi
    have ei : (((6 : Int32) * (I 160 28)) + nI i) = nI (6 * vB I0 + i) := by rw [hE1.1.1.2, show (6 : Int32) = nI 6 from rfl, pk_mul, nI_add, eB]
    refine g_X12_fitsBy hP (by omega) ⟨fun q => absurd q (nn0 (by omega)), fun _ => ⟨by rw [ei]; exact nx_in (by omega) (by decide), ?_⟩⟩
    rw [ei, nI_cl (by omega), hf.1 169 (by decide) (by decide), hf.1 170 (by decide) (by decide), c1, c2]
    have eN := vN_fr hf (by decide) (by decide)
    have eP := vNp_fr hf (by decide) (by decide)
    have eC' : vCd I (vSf I0 i) (vSl I0 i) = vSy I0 i := vCd_c (hf.1 175 (by decide) (by decide)) (hf.1 176 (by decide) (by decide)) _ _
    refine sp_X12_work hP hE1 (fun w hw => ?_) hM c3 (by rw [eP, eC']; exact c4) (by omega) (fun I1 a1 a2 a3 => ?_)
    · rw [hf.1 180 (by decide) (by decide), hA w (by omega)]; exact Or.inr rfl
    · have f1 := zFr_tr hf (zFr_wk a1 (by decide) (by decide))
      have eN1 := vN_fr f1 (by decide) (by decide)
      refine main I1 f1 a2 (by rw [a1.2 61 (by decide)]; exact hm) (fun q => absurd q (nn0 (by omega))) (fun _ w hw => ?_)
      rw [a3 w (by omega), eC']
      have : eVal I (vSy I0 i) w = eVal I0 (vSy I0 i) w := by
        unfold eVal
        rw [eP, eN, vPoss_fr hf (by decide), vLike_fr' hf (by decide) (by decide) (by decide) (by decide) (by decide) (by decide), hf.2 40 (by decide)]
      rw [this, fBg_row hB' hi (by omega)]
      exact Iff.rfl
abbrev gw_X12_fitsOf (d : Nat) (Q : zQt) (pc : Nat) (lv : zV) (st : List Value) (I : zI) (L : zL) (P : zP) : Prop := zW zm_X12_fitsOf (zRm d 0 0) 0 0 Q pc lv st I L P 205 0 0
abbrev v_X12_fitsOf_19 (d : Nat) (Q : zQt) (p1 : Int32) (p2 : Int32) (x3 : Int32) (x4 : Int32) (I : zI) (L : zL) (P : zP) : Prop :=
  vp_in (I 160 28) 2 ∧
  (((I 165 (I 160 28).toNatClampNeg) ≤ x4 →
    zMv zm_X12_bring d [.ref 160, .int 3] I L P (fun I15 L16 P17 =>
      Q (some (.int x3)) I15 L16 P17 205
    )
  ) ∧ (¬ (I 165 (I 160 28).toNatClampNeg) ≤ x4 →
    zMi zm_X12_fitsBy d [.ref 160, .int x4, .int p1, .int p2] I L P (fun r24 I20 L21 P22 =>
      gw_X12_fitsOf (d + 1) Q 19 [some (.ref 160), some (.int p1), some (.int p2), some (.int (x3 + r24)), some (.int (x4 + 1))] [] I20 L21 P22
    )
  ))
set_option maxRecDepth 20000 in
theorem g_X12_fitsOf_19 {d : Nat} {Q : zQt} {p1 : Int32} {p2 : Int32} {x3 : Int32} {x4 : Int32} {I : zI} {L : zL} {P : zP} (hP : zPk P) (hv : v_X12_fitsOf_19 d Q p1 p2 x3 x4 I L P) : gw_X12_fitsOf (d + 1) Q 19 [some (.ref 160), some (.int p1), some (.int p2), some (.int x3), some (.int x4)] [] I L P := by
  unfold v_X12_fitsOf_19 at hv
  refine z_iload dX12_fitsOf_19 rfl ?_
  refine z_aload_n dX12_fitsOf_21 rfl ?_
  refine z_getP dX12_fitsOf_22 zf_X12_27 zn_160 zo_160 (fun _ _ _ _ _ => rfl) (hP 160 13 165 zp_160_13) ?_
  refine z_aload_n dX12_fitsOf_25 rfl ?_
  refine z_getI dX12_fitsOf_26 zf_X12_261 zn_160 zo_160 (fun _ _ _ _ _ => rfl) ?_
  obtain ⟨h13, hv⟩ := hv
  refine z_iaload dX12_fitsOf_29 zn_165 zh_165 h13 ?_
  refine z_icmp_ge (tgt := 50) dX12_fitsOf_30 (by decide) (fun q14 => ?_) (fun q14 => ?_)
  · have hv := hv.1 q14
    refine z_aload_n dX12_fitsOf_50 rfl ?_
    refine z_iconst (v := 3) dX12_fitsOf_51 (by decide) ?_
    refine z_callV (As := [.int 3]) (st := []) dX12_fitsOf_52 zl_X12_431 zv_X12_bring (by decide) rfl zn_160 zo_160 rfl rfl (Nat.le_of_ble_eq_true rfl) ⟨Nat.le_refl _, Nat.le_refl _⟩ ⟨Nat.le_refl _, Nat.le_refl _⟩ hv (fun v1 I15 L16 P17 nx1 q18 => ?_)
    obtain ⟨rfl, rfl, hv⟩ := q18
    refine z_iload_n dX12_fitsOf_55 rfl ?_
    exact z_ireturn dX12_fitsOf_56 rfl rfl (Nat.le_refl _) (Nat.le_refl _) hv
  · have hv := hv.2 q14
    refine z_iload_n dX12_fitsOf_33 rfl ?_
    refine z_aload_n dX12_fitsOf_34 rfl ?_
    refine z_iload dX12_fitsOf_35 rfl ?_
    refine z_iload_n dX12_fitsOf_37 rfl ?_
    refine z_iload_n dX12_fitsOf_38 rfl ?_
    refine z_callV (As := [.int x4, .int p1, .int p2]) (st := [.int x3]) dX12_fitsOf_39 zl_X12_454 zv_X12_fitsBy (by decide) rfl zn_160 zo_160 rfl rfl (Nat.le_of_ble_eq_true rfl) ⟨Nat.le_refl _, Nat.le_refl _⟩ ⟨Nat.le_refl _, Nat.le_refl _⟩ hv (fun v1 I20 L21 P22 nx1 q23 => ?_)
    obtain ⟨rfl, r24, rfl, hv⟩ := q23
    refine z_iadd dX12_fitsOf_42 ?_
    refine z_istore_n (lv2 := [some (.ref 160), some (.int p1), some (.int p2), some (.int (x3 + r24)), some (.int x4)]) dX12_fitsOf_43 (by decide) rfl rfl ?_
    refine z_iinc (v2 := x4 + 1) (lv2 := [some (.ref 160), some (.int p1), some (.int p2), some (.int (x3 + r24)), some (.int (x4 + 1))]) dX12_fitsOf_44 rfl (by rfl) (by decide) rfl rfl ?_
    refine z_goto (tgt := 19) dX12_fitsOf_47 (by decide) ?_
    exact hv
abbrev v_X12_fitsOf (d : Nat) (Q : zQt) (p1 : Int32) (p2 : Int32) (I : zI) (L : zL) (P : zP) : Prop :=
  zMv zm_X12_keep d [.ref 160, .int 3] I L P (fun I1 L2 P3 =>
    zMv zm_X12_begin d [.ref 160] I1 L2 P3 (fun I6 L7 P8 =>
      ∀ I11 : zI, I11 = zuI I6 160 61 0 →
      gw_X12_fitsOf (d + 1) Q 19 [some (.ref 160), some (.int p1), some (.int p2), some (.int 0), some (.int (-1))] [] I11 L7 P8
    )
  )
set_option maxRecDepth 20000 in
theorem g_X12_fitsOf {d : Nat} {Q : zQt} {p1 : Int32} {p2 : Int32} {I : zI} {L : zL} {P : zP} (hP : zPk P) (hv : v_X12_fitsOf d Q p1 p2 I L P) : zM zm_X12_fitsOf (d + 1) 0 0 [.ref 160, .int p1, .int p2] I L P 205 Q := by
  unfold v_X12_fitsOf at hv
  refine zM_of (lv0 := [some (.ref 160), some (.int p1), some (.int p2), none, none]) (by decide +kernel) (Nat.le_of_ble_eq_true rfl) rfl ?_
  refine z_aload_n dX12_fitsOf_0 rfl ?_
  refine z_iconst (v := 3) dX12_fitsOf_1 (by decide) ?_
  refine z_callV (As := [.int 3]) (st := []) dX12_fitsOf_2 zl_X12_428 zv_X12_keep (by decide) rfl zn_160 zo_160 rfl rfl (Nat.le_of_ble_eq_true rfl) ⟨Nat.le_refl _, Nat.le_refl _⟩ ⟨Nat.le_refl _, Nat.le_refl _⟩ hv (fun v1 I1 L2 P3 nx1 q4 => ?_)
  obtain ⟨rfl, rfl, hv⟩ := q4
  refine z_aload_n dX12_fitsOf_5 rfl ?_
  refine z_callV (As := []) (st := []) dX12_fitsOf_6 zl_X12_152 zv_X12_begin (by decide) rfl zn_160 zo_160 rfl rfl (Nat.le_of_ble_eq_true rfl) ⟨Nat.le_refl _, Nat.le_refl _⟩ ⟨Nat.le_refl _, Nat.le_refl _⟩ hv (fun v1 I6 L7 P8 nx1 q9 => ?_)
  obtain ⟨rfl, rfl, hv⟩ := q9
  refine z_aload_n dX12_fitsOf_9 rfl ?_
  refine z_iconst (v := 0) dX12_fitsOf_10 (by decide) ?_
  refine z_putI dX12_fitsOf_11 zf_X12_451 zn_160 zo_160 (Or.inl rfl) (fun _ _ _ _ _ => rfl) rfl rfl (z_nmI (fun I11 e12 => ?_))
  have hv := hv I11 e12
  refine z_iconst (v := 0) dX12_fitsOf_14 (by decide) ?_
  refine z_istore_n (lv2 := [some (.ref 160), some (.int p1), some (.int p2), some (.int 0), none]) dX12_fitsOf_15 (by decide) rfl rfl ?_
  refine z_iconst (v := (-1)) dX12_fitsOf_16 (by decide) ?_
  refine z_istore (lv2 := [some (.ref 160), some (.int p1), some (.int p2), some (.int 0), some (.int (-1))]) dX12_fitsOf_17 (by decide) rfl rfl ?_
  exact hv
theorem lp_X12_fitsOf_19 {d : Nat} {Q : zQt} {I0 : zI} {L : zL} {P : zP} {k : Int32} {p : Nat} (hP : zPk P) (hB : fBg I0) (hp : p < 31) (hd : 8 ≤ d)
    (kk : ∀ I, zFr fD [46, 61] I0 I → MP I → I 160 61 = nI (fMs I0 k p (vNs I0 + 1)) → zMv zm_X12_bring d [.ref 160, .int 3] I L P (fun I15 L16 P17 => Q (some (.int (nI (fCt I0 k (vNs I0 + 1))))) I15 L16 P17 205)) :
    ∀ n i I, i + n = vNs I0 → zFr fD [46, 61] I0 I → MP I → I 160 61 = nI (fMs I0 k p (i + 1)) → gw_X12_fitsOf (d + 1) Q 19 [some (.ref 160), some (.int k), some (.int (nI p)), some (.int (nI (fCt I0 k (i + 1)))), some (.int (nI i))] [] I L P := by
  have hE := hB.1
  have hC := hB.2.1
  have hns := hC.1
  have hbk := hE.1.1.1
  have pre : ∀ I, zFr fD [46, 61] I0 I → vp_in (I 160 28) 2 ∧ I 165 (I 160 28).toNatClampNeg = nI (vNs I0) := by
    intro I hf
    have hE1 := ME_fr hf (by decide) (by decide) (by decide) (by decide) (by decide) hE
    refine ⟨by rw [hE1.1.1.2]; exact nx_in hE1.1.1.1 (by decide), ?_⟩
    show I 165 (vB I) = _
    rw [vB_fr hf (by decide), hf.1 165 (by decide) (by decide), hC.2.1]
  intro n
  induction n with
  | zero =>
    intro i I hi hf hM hm
    have : i = vNs I0 := by omega
    subst this
    obtain ⟨p1, p2⟩ := pre I hf
    exact g_X12_fitsOf_19 hP ⟨p1, fun _ => kk I hf hM hm, fun q => absurd (by rw [p2]; exact nI_le (Nat.le_refl _) (by omega)) q⟩
  | succ n ih =>
    intro i I hi hf hM hm
    obtain ⟨p1, p2⟩ := pre I hf
    refine g_X12_fitsOf_19 hP ⟨p1, fun q => absurd q (by rw [p2]; exact nI_ge (by omega) (by omega)), fun _ => sp_X12_fitsBy (s := i + 1) (m := fMs I0 k p (i + 1)) hP hB (Or.inr ⟨i, rfl, by omega, rfl⟩) hp hd hf hM hm (fun I' a1 a2 a3 => ?_)⟩
    rw [nI_1, nI_add]
    exact ih (i + 1) I' (by omega) a1 a2 a3
theorem fX_c {I I' : zI} (e1 : vN I' = vN I) (e2 : vNp I' = vNp I) (e3 : vSee I' = vSee I) (e4 : vSty I' = vSty I) (e5 : vOwn I' = vOwn I) (e6 : fOk I' = fOk I) (e7 : vNg I' = vNg I) (e8 : ∀ i, vSy I' i = vSy I i) :
    (∀ k n, fCt I' k n = fCt I k n) ∧ ∀ k p n, fMs I' k p n = fMs I k p n := by
  have el : fLk I' = fLk I := by funext p a b; unfold fLk; rw [e3]
  have eg : fGe I' = fGe I := by funext inn E ga w; unfold fGe; rw [e1, e2, el, e4, e5]
  have en : ∀ inn n, fNN I' inn n = fNN I inn n := by
    intro inn n
    induction n with
    | zero => rfl
    | succ n ih => unfold fNN fE1 fG1; rw [ih, eg]
  have ef : fFi I' = fFi I := by funext inn k n w; unfold fFi fGj; rw [e7, e6, eg]; simp only [en]
  have er : fRw I' = fRw I := by funext cs; unfold fRw; rw [e1, e2, e3]
  have ei : fIn I' = fIn I := by
    funext s
    cases s with
    | zero => rfl
    | succ i => funext w; show (¬ fRw I' (vSy I' i) w = 0) = (¬ fRw I (vSy I i) w = 0); rw [er, e8]
  constructor
  · intro k n
    induction n with
    | zero => rfl
    | succ n ih => unfold fCt; rw [ih, e1, ef, ei]
  · intro k p n
    induction n with
    | zero => rfl
    | succ n ih => unfold fMs; rw [ih, e1, ef, ei]
theorem sp_X12_fitsOf {d : Nat} {I : zI} {L : zL} {P : zP} {k : Int32} {p : Nat} (hP : zPk P) (hS : MSc I) (hH : MH I) (h6 : vNp I ≤ 6) (hp : p < 31) (hd : 9 ≤ d) {K : Int32 → zI → zL → zP → Prop}
    (kk : ∀ I', rSm I I' → I' 160 61 = nI (fMs I k p (vNs I + 1)) → K (nI (fCt I k (vNs I + 1))) I' L P) : zMi zm_X12_fitsOf d [.ref 160, .int k, .int (nI p)] I L P K := by
  obtain ⟨d, rfl⟩ : ∃ e, d = e + 1 := ⟨d - 1, by omega⟩
  obtain ⟨hE, hT, hC, hG, hZ, hM, hpt⟩ := hS
  refine g_X12_fitsOf hP (sp_X12_keep (b := 3) hP (by decide) hZ (fun I1 a1 a2 a3 => ?_))
  refine sp_X12_begin hP (MB_fr a1 (by decide) (by decide) hE.1) (by omega) (fun I2 b1 b2 b38 b39 b40 b46 I3 e3 => ?_)
  have c13 : zFr [180] [38, 39, 40, 46, 61] I1 I3 := by rw [e3]; exact zFr_s (zFr_wk b1 (by decide) (by decide)) (by decide)
  have f : zFr [180, 199, 200, 201, 202, 203, 204] [38, 39, 40, 46, 61] I I3 := zFr_tr (zFr_wk a1 (by decide) (by decide)) (zFr_wk c13 (by decide) (by decide))
  have s38 : I3 160 38 = nI 0 := by rw [e3, zuI_o (by decide)]; exact b38
  have s40 : I3 160 40 = nI 0 := by rw [e3, zuI_o (by decide)]; exact b40
  have s46 : I3 160 46 = 0 := by rw [e3, zuI_o (by decide)]; exact b46
  have s61 : I3 160 61 = nI 0 := by rw [e3, zuI_v]; rfl
  have s180 : ∀ w, w < 256 → I3 180 w = bP (w < vN I1) := fun w hw => by rw [e3, zuI_ne (by decide)]; exact b2 w hw
  clear e3
  have eN := vN_fr f (by decide) (by decide)
  have eN1 := vN_fr a1 (by decide) (by decide)
  have eP := vNp_fr f (by decide) (by decide)
  have hNw : vNw I3 = 0 := by unfold vNw; rw [s38, nI_cl (by decide)]
  have hN := vN_64 h6
  have hB : fBg I3 := by
    refine ⟨⟨MB_fr f (by decide) (by decide) hE.1, MS_fr f (by decide) (by decide) (by decide) hE.2.1, ⟨by rw [hNw]; decide, by rw [s38, hNw], fun k hk => absurd hk (by rw [hNw]; exact Nat.not_lt_zero k)⟩⟩, MC_fr f (by decide) (by decide) (by decide) (by decide) (by decide) (by decide) (by decide) hC, MH_fr f (by decide) (by decide) (by decide) hH, fun w hw => ?_, hNw, s40, by omega⟩
    rw [s180 w (by omega)]; exact bP_t (by omega)
  have eS := vNs_fr f (by decide) (by decide)
  obtain ⟨x1, x2⟩ := fX_c (I := I) (I' := I3) eN eP (by funext p; unfold vSee; rw [vB_fr f (by decide), eN, f.1 168 (by decide) (by decide)]) (vSty_fr f (by decide) (by decide)) (vOwn_fr f (by decide) (by decide)) (fOk_fr f (by decide) (by decide) (by decide) (by decide) (by decide)) (vNg_fr f (by decide)) (vSy_fr f (by decide) (by decide) (by decide) (by decide) (by decide))
  have hE3 := hB.1
  refine g_X12_fitsOf_19 hP ⟨by rw [hE3.1.1.2]; exact nx_in hE3.1.1.1 (by decide), fun q => absurd q ?_, fun _ => ?_⟩
  · rw [show I3 165 (I3 160 28).toNatClampNeg = nI (vNs I3) from hB.2.1.2.1]
    exact Int32.not_le.mpr (Int32.lt_of_lt_of_le (by decide : (-1 : Int32) < 0) (nI_pos' (by have := hB.2.1.1; omega)))
  · refine sp_X12_fitsBy (s := 0) (m := 0) hP hB (Or.inl ⟨rfl, rfl⟩) hp (by omega) (zFr_rf _ _ _) (Or.inl s46) s61 (fun I4 d1 d2 d3 => ?_)
    have key := lp_X12_fitsOf_19 (Q := (fun v I' L' P' nx' => nx' = 205 ∧ ∃ r', v = some (.int r') ∧ K r' I' L' P')) (L := L) hP hB hp (show 8 ≤ d by omega) (k := k) (p := p) (fun I5 g1 g2 g3 => ?_) (vNs I3) 0 I4 (by omega) d1 d2 ?_
    · have e0 : (0 : Int32) + nI (cP (fFi I3 (fIn I3 0) k 12) (vN I3)) = nI (fCt I3 k (0 + 1)) := by
        rw [show (0 : Int32) = nI 0 from rfl, nI_add]; rfl
      rw [e0]
      exact key
    · refine t_endB hP hZ (zFr_wk a1 (by decide) (by decide)) a2 a3 (zFr_tr (zFr_wk c13 (by decide) (by decide)) (zFr_wk g1 (by decide) (by decide))) (fun I6 hr _ h6' => qi ?_)
      rw [x1, eS]
      refine kk I6 hr ?_
      rw [h6'.2 61 (by decide), g3, x2, eS]
    · rw [d3]; rfl
abbrev gw_X12_fits (d : Nat) (Q : zQt) (pc : Nat) (lv : zV) (st : List Value) (I : zI) (L : zL) (P : zP) : Prop := zW zm_X12_fits (zRm d 0 0) 0 0 Q pc lv st I L P 205 0 0
abbrev v_X12_fits (d : Nat) (Q : zQt) (p1 : Int32) (I : zI) (L : zL) (P : zP) : Prop :=
  MB I ∧
  (((nI (vNp I)) ≤ 6 →
    zMi zm_X12_fitsOf d [.ref 160, .int p1, .int 0] I L P (fun r9 I5 L6 P7 =>
      Q (some (.int r9)) I5 L6 P7 205
    )
  ) ∧ (¬ (nI (vNp I)) ≤ 6 →
    Q (some (.int (-2))) I L P 205
  ))
set_option maxRecDepth 20000 in
theorem g_X12_fits {d : Nat} {Q : zQt} {p1 : Int32} {I : zI} {L : zL} {P : zP} (hP : zPk P) (hv : v_X12_fits d Q p1 I L P) : zM zm_X12_fits (d + 1) 0 0 [.ref 160, .int p1] I L P 205 Q := by
  unfold v_X12_fits at hv
  refine zM_of (lv0 := [some (.ref 160), some (.int p1)]) (by decide +kernel) (Nat.le_of_ble_eq_true rfl) rfl ?_
  refine z_aload_n dX12_fits_0 rfl ?_
  obtain ⟨h1, hv⟩ := hv
  refine z_callV (As := []) (st := []) dX12_fits_1 zl_X12_339 zv_X12_manyOf (by decide) rfl zn_160 zo_160 rfl rfl (Nat.le_of_ble_eq_true rfl) ⟨Nat.le_refl _, Nat.le_refl _⟩ ⟨Nat.le_refl _, Nat.le_refl _⟩ (sp_X12_manyOf hP h1 (K := fun r I' L' P' => nI (vNp I) = r ∧ I = I' ∧ L = L' ∧ P = P') ⟨rfl, rfl, rfl, rfl⟩) (fun v1 I2 L2 P2 nx1 q3 => ?_)
  obtain ⟨rfl, r2, rfl, rfl, rfl, rfl, rfl⟩ := q3
  refine z_bipush (v := 6) dX12_fits_4 (by decide) ?_
  refine z_icmp_le (tgt := 14) dX12_fits_6 (by decide) (fun q4 => ?_) (fun q4 => ?_)
  · have hv := hv.1 q4
    refine z_aload_n dX12_fits_14 rfl ?_
    refine z_iload_n dX12_fits_15 rfl ?_
    refine z_iconst (v := 0) dX12_fits_16 (by decide) ?_
    refine z_callV (As := [.int p1, .int 0]) (st := []) dX12_fits_17 zl_X12_457 zv_X12_fitsOf (by decide) rfl zn_160 zo_160 rfl rfl (Nat.le_of_ble_eq_true rfl) ⟨Nat.le_refl _, Nat.le_refl _⟩ ⟨Nat.le_refl _, Nat.le_refl _⟩ hv (fun v1 I5 L6 P7 nx1 q8 => ?_)
    obtain ⟨rfl, r9, rfl, hv⟩ := q8
    exact z_ireturn dX12_fits_20 rfl rfl (Nat.le_refl _) (Nat.le_refl _) hv
  · have hv := hv.2 q4
    refine z_bipush (v := (-2)) dX12_fits_9 (by decide) ?_
    refine z_goto (tgt := 20) dX12_fits_11 (by decide) ?_
    exact z_ireturn dX12_fits_20 rfl rfl (Nat.le_refl _) (Nat.le_refl _) hv
theorem sp_X12_fits {d : Nat} {I : zI} {L : zL} {P : zP} {k : Int32} (hP : zPk P) (hS : MSc I) (hH : MH I) (hd : 10 ≤ d) {K : Int32 → zI → zL → zP → Prop}
    (k0 : ¬ vNp I ≤ 6 → K (-2) I L P) (kk : vNp I ≤ 6 → ∀ I', rSm I I' → K (nI (fCt I k (vNs I + 1))) I' L P) : zMi zm_X12_fits d [.ref 160, .int k] I L P K := by
  obtain ⟨d, rfl⟩ : ∃ e, d = e + 1 := ⟨d - 1, by omega⟩
  have hnp := hS.1.1.2.1
  refine g_X12_fits hP ⟨hS.1.1, fun q => ?_, fun q => qi (k0 (fun z => q (nI_le z (by decide))))⟩
  rw [show (6 : Int32) = nI 6 from rfl, nI_leI (by omega) (by decide)] at q
  exact sp_X12_fitsOf (p := 0) hP hS hH q (by decide) (by omega) (fun I' h1 _ => qi (kk q I' h1))
abbrev gw_X12_sure (d : Nat) (Q : zQt) (pc : Nat) (lv : zV) (st : List Value) (I : zI) (L : zL) (P : zP) : Prop := zW zm_X12_sure (zRm d 0 0) 0 0 Q pc lv st I L P 205 0 0
abbrev v_X12_sure (d : Nat) (Q : zQt) (p1 : Int32) (p2 : Int32) (I : zI) (L : zL) (P : zP) : Prop :=
  MB I ∧
  ((¬ (bP (vp_in p1 (vNp I))) = 0 →
    (((nI (vNp I)) ≤ 6 →
      zMi zm_X12_fitsOf d [.ref 160, .int p2, .int p1] I L P (fun r12 I8 L9 P10 =>
        ((¬ r12 = 0 →
          ((¬ (I8 160 61) = 3 →
            Q (some (.int ((I8 160 61) - 1))) I8 L9 P10 205
          ) ∧ ((I8 160 61) = 3 →
            Q (some (.int (-2))) I8 L9 P10 205
          ))
        ) ∧ (r12 = 0 →
          Q (some (.int (-1))) I8 L9 P10 205
        ))
      )
    ) ∧ (¬ (nI (vNp I)) ≤ 6 →
      Q (some (.int (-3))) I L P 205
    ))
  ) ∧ ((bP (vp_in p1 (vNp I))) = 0 →
    Q (some (.int (-1))) I L P 205
  ))
set_option maxRecDepth 20000 in
theorem g_X12_sure {d : Nat} {Q : zQt} {p1 : Int32} {p2 : Int32} {I : zI} {L : zL} {P : zP} (hP : zPk P) (hd : 1 ≤ d) (hv : v_X12_sure d Q p1 p2 I L P) : zM zm_X12_sure (d + 1) 0 0 [.ref 160, .int p1, .int p2] I L P 205 Q := by
  unfold v_X12_sure at hv
  refine zM_of (lv0 := [some (.ref 160), some (.int p1), some (.int p2)]) (by decide +kernel) (Nat.le_of_ble_eq_true rfl) rfl ?_
  refine z_aload_n dX12_sure_0 rfl ?_
  refine z_iload_n dX12_sure_1 rfl ?_
  obtain ⟨h1, hv⟩ := hv
  refine z_callV (As := [.int p1]) (st := []) dX12_sure_2 zl_X12_365 zv_X12_isOne (by decide) rfl zn_160 zo_160 rfl rfl (Nat.le_of_ble_eq_true rfl) ⟨Nat.le_refl _, Nat.le_refl _⟩ ⟨Nat.le_refl _, Nat.le_refl _⟩ (sp_X12_isOne hP h1 (by omega) (K := fun r I' L' P' => bP (vp_in p1 (vNp I)) = r ∧ I = I' ∧ L = L' ∧ P = P') ⟨rfl, rfl, rfl, rfl⟩) (fun v1 I2 L2 P2 nx1 q3 => ?_)
  obtain ⟨rfl, r2, rfl, rfl, rfl, rfl, rfl⟩ := q3
  refine z_if_ne (tgt := 10) dX12_sure_5 (by decide) (fun q4 => ?_) (fun q4 => ?_)
  · have hv := hv.1 q4
    refine z_aload_n dX12_sure_10 rfl ?_
    refine z_callV (As := []) (st := []) dX12_sure_11 zl_X12_339 zv_X12_manyOf (by decide) rfl zn_160 zo_160 rfl rfl (Nat.le_of_ble_eq_true rfl) ⟨Nat.le_refl _, Nat.le_refl _⟩ ⟨Nat.le_refl _, Nat.le_refl _⟩ (sp_X12_manyOf hP h1 (K := fun r I' L' P' => nI (vNp I) = r ∧ I = I' ∧ L = L' ∧ P = P') ⟨rfl, rfl, rfl, rfl⟩) (fun v1 I2 L2 P2 nx1 q6 => ?_)
    obtain ⟨rfl, r5, rfl, rfl, rfl, rfl, rfl⟩ := q6
    refine z_bipush (v := 6) dX12_sure_14 (by decide) ?_
    refine z_icmp_le (tgt := 22) dX12_sure_16 (by decide) (fun q7 => ?_) (fun q7 => ?_)
    · have hv := hv.1 q7
      refine z_aload_n dX12_sure_22 rfl ?_
      refine z_iload_n dX12_sure_23 rfl ?_
      refine z_iload_n dX12_sure_24 rfl ?_
      refine z_callV (As := [.int p2, .int p1]) (st := []) dX12_sure_25 zl_X12_457 zv_X12_fitsOf (by decide) rfl zn_160 zo_160 rfl rfl (Nat.le_of_ble_eq_true rfl) ⟨Nat.le_refl _, Nat.le_refl _⟩ ⟨Nat.le_refl _, Nat.le_refl _⟩ hv (fun v1 I8 L9 P10 nx1 q11 => ?_)
      obtain ⟨rfl, r12, rfl, hv⟩ := q11
      refine z_if_ne (tgt := 35) dX12_sure_28 (by decide) (fun q13 => ?_) (fun q13 => ?_)
      · have hv := hv.1 q13
        refine z_aload_n dX12_sure_35 rfl ?_
        refine z_getI dX12_sure_36 zf_X12_451 zn_160 zo_160 (fun _ _ _ _ _ => rfl) ?_
        refine z_iconst (v := 3) dX12_sure_39 (by decide) ?_
        refine z_icmp_ne (tgt := 48) dX12_sure_40 (by decide) (fun q14 => ?_) (fun q14 => ?_)
        · have hv := hv.1 q14
          refine z_aload_n dX12_sure_48 rfl ?_
          refine z_getI dX12_sure_49 zf_X12_451 zn_160 zo_160 (fun _ _ _ _ _ => rfl) ?_
          refine z_iconst (v := 1) dX12_sure_52 (by decide) ?_
          refine z_isub dX12_sure_53 ?_
          exact z_ireturn dX12_sure_54 rfl rfl (Nat.le_refl _) (Nat.le_refl _) hv
        · have hv := hv.2 q14
          refine z_bipush (v := (-2)) dX12_sure_43 (by decide) ?_
          refine z_goto (tgt := 54) dX12_sure_45 (by decide) ?_
          exact z_ireturn dX12_sure_54 rfl rfl (Nat.le_refl _) (Nat.le_refl _) hv
      · have hv := hv.2 q13
        refine z_iconst (v := (-1)) dX12_sure_31 (by decide) ?_
        refine z_goto (tgt := 54) dX12_sure_32 (by decide) ?_
        exact z_ireturn dX12_sure_54 rfl rfl (Nat.le_refl _) (Nat.le_refl _) hv
    · have hv := hv.2 q7
      refine z_bipush (v := (-3)) dX12_sure_19 (by decide) ?_
      exact z_ireturn dX12_sure_21 rfl rfl (Nat.le_refl _) (Nat.le_refl _) hv
  · have hv := hv.2 q4
    refine z_iconst (v := (-1)) dX12_sure_8 (by decide) ?_
    exact z_ireturn dX12_sure_9 rfl rfl (Nat.le_refl _) (Nat.le_refl _) hv
/-- what the marks that were met tell -/
def fSu (n m : Nat) : Int32 := if n = 0 then -1 else if m = 3 then -2 else nI m - 1
theorem sp_X12_sure {d : Nat} {I : zI} {L : zL} {P : zP} {x k : Int32} (hP : zPk P) (hS : MSc I) (hH : MH I) (hd : 10 ≤ d) {K : Int32 → zI → zL → zP → Prop}
    (k0 : ¬ vp_in x (vNp I) → K (-1) I L P) (k1 : vp_in x (vNp I) → ¬ vNp I ≤ 6 → K (-3) I L P) (kk : ∀ p, p < vNp I → x = nI p → vNp I ≤ 6 → ∀ I', rSm I I' → K (fSu (fCt I k (vNs I + 1)) (fMs I k p (vNs I + 1))) I' L P) : zMi zm_X12_sure d [.ref 160, .int x, .int k] I L P K := by
  obtain ⟨d, rfl⟩ : ∃ e, d = e + 1 := ⟨d - 1, by omega⟩
  have hnp := hS.1.1.2.1
  have hns := hS.2.2.1.1
  refine g_X12_sure hP (by omega) ⟨hS.1.1, fun q => ?_, fun q => qi (k0 (bP_0.mp q))⟩
  rw [bP_n] at q
  refine ⟨fun q2 => ?_, fun q2 => qi (k1 q (fun z => q2 (nI_le z (by decide))))⟩
  rw [show (6 : Int32) = nI 6 from rfl, nI_leI (by omega) (by decide)] at q2
  obtain ⟨p, hp, rfl⟩ := vp_nI q (by omega)
  have hN := vN_64 q2
  refine sp_X12_fitsOf (p := p) hP hS hH q2 (by omega) (by omega) (fun I' h1 h2 => ?_)
  have key := kk p hp rfl q2 I' h1
  have hc : fCt I k (vNs I + 1) < 2 ^ 31 := by
    have := fCt_le I k (vNs I + 1)
    have : (vNs I + 1) * vN I ≤ 7 * 64 := Nat.mul_le_mul (by omega) hN
    omega
  have hm := fMs_lt I k p (vNs I + 1)
  unfold fSu at key
  rw [h2]
  refine ⟨fun q3 => ⟨fun q4 => qi ?_, fun q4 => qi ?_⟩, fun q3 => qi ?_⟩
  · rw [nI_zero hc] at q3
    rw [if_neg q3, if_neg (fun z => q4 (by rw [z]; rfl))] at key
    exact key
  · rw [nI_zero hc] at q3
    rw [show (3 : Int32) = nI 3 from rfl, nI_eq (by omega) (by decide)] at q4
    rw [if_neg q3, if_pos q4] at key
    exact key
  · rw [nI_zero hc] at q3
    rw [if_pos q3] at key
    exact key
