/-! ===== the model: who goes ===== -/
noncomputable def bset (f : Nat → Prop) : Nat → Nat
  | 0 => 0
  | n + 1 => bset f n ||| (@ite _ (f n) (Classical.propDecidable _) (2 ^ n) 0)
theorem bset_t {f : Nat → Prop} {n : Nat} (h : f n) : bset f (n + 1) = bset f n ||| 2 ^ n := by
  show bset f n ||| (@ite _ (f n) (Classical.propDecidable _) (2 ^ n) 0) = _
  rw [if_pos h]
theorem bset_f {f : Nat → Prop} {n : Nat} (h : ¬ f n) : bset f (n + 1) = bset f n := by
  show bset f n ||| (@ite _ (f n) (Classical.propDecidable _) (2 ^ n) 0) = bset f n
  rw [if_neg h, Nat.or_zero]
theorem bset_lt (f : Nat → Prop) : ∀ n, bset f n < 2 ^ n
  | 0 => by unfold bset; decide
  | n + 1 => by
    have h := bset_lt f n
    have h2 : bset f n < 2 ^ (n + 1) := by rw [Nat.pow_succ]; omega
    by_cases hf : f n
    · rw [bset_t hf]
      exact Nat.or_lt_two_pow h2 (Nat.pow_lt_pow_right (by decide) (by omega))
    · rw [bset_f hf]; exact h2
theorem bset_bit (f : Nat → Prop) : ∀ n p, (bset f n).testBit p = true ↔ p < n ∧ f p
  | 0, p => by unfold bset; simp
  | n + 1, p => by
    have h := bset_bit f n p
    by_cases hf : f n
    · rw [bset_t hf, Nat.testBit_or, Bool.or_eq_true, h, Nat.testBit_two_pow]
      constructor
      · rintro (⟨h1, h2⟩ | h1)
        · exact ⟨by omega, h2⟩
        · have h1 : n = p := of_decide_eq_true h1
          subst h1; exact ⟨by omega, hf⟩
      · rintro ⟨h1, h2⟩
        by_cases hp : p = n
        · subst hp; exact Or.inr (by simp)
        · exact Or.inl ⟨by omega, h2⟩
    · rw [bset_f hf, h]
      constructor
      · rintro ⟨h1, h2⟩; exact ⟨by omega, h2⟩
      · rintro ⟨h1, h2⟩
        by_cases hp : p = n
        · subst hp; exact absurd h2 hf
        · exact ⟨by omega, h2⟩
theorem bset_c {f g : Nat → Prop} {n : Nat} (h : ∀ p, p < n → (f p ↔ g p)) : bset f n = bset g n := by
  apply Nat.eq_of_testBit_eq
  intro p
  have e : ((bset f n).testBit p = true ↔ (bset g n).testBit p = true) := by
    rw [bset_bit, bset_bit]
    exact ⟨fun q => ⟨q.1, (h p q.1).mp q.2⟩, fun q => ⟨q.1, (h p q.1).mpr q.2⟩⟩
  cases h1 : (bset f n).testBit p <;> cases h2 : (bset g n).testBit p <;> simp_all
/-- how many -/
noncomputable def cP (f : Nat → Prop) : Nat → Nat
  | 0 => 0
  | n + 1 => cP f n + (@ite _ (f n) (Classical.propDecidable _) 1 0)
theorem cP_t {f : Nat → Prop} {n : Nat} (h : f n) : cP f (n + 1) = cP f n + 1 := by
  show cP f n + (@ite _ (f n) (Classical.propDecidable _) 1 0) = _
  rw [if_pos h]
theorem cP_f {f : Nat → Prop} {n : Nat} (h : ¬ f n) : cP f (n + 1) = cP f n := by
  show cP f n + (@ite _ (f n) (Classical.propDecidable _) 1 0) = cP f n
  rw [if_neg h, Nat.add_zero]
theorem cP_le (f : Nat → Prop) : ∀ n, cP f n ≤ n
  | 0 => Nat.le_refl _
  | n + 1 => by
    have := cP_le f n
    by_cases h : f n
    · rw [cP_t h]; omega
    · rw [cP_f h]; omega
theorem cP_c {f g : Nat → Prop} : ∀ {n : Nat}, (∀ p, p < n → (f p ↔ g p)) → cP f n = cP g n
  | 0, _ => rfl
  | n + 1, h => by
    have ih := cP_c (n := n) (fun p hp => h p (by omega))
    by_cases hf : f n
    · rw [cP_t hf, cP_t ((h n (by omega)).mp hf), ih]
    · rw [cP_f hf, cP_f (fun q => hf ((h n (by omega)).mpr q)), ih]
theorem cP_0 {f : Nat → Prop} : ∀ {n : Nat}, cP f n = 0 ↔ ∀ p, p < n → ¬ f p
  | 0 => ⟨fun _ p hp => absurd hp (Nat.not_lt_zero p), fun _ => rfl⟩
  | n + 1 => by
    have ih := cP_0 (f := f) (n := n)
    by_cases hf : f n
    · rw [cP_t hf]
      exact ⟨fun h => absurd h (by omega), fun h => absurd hf (h n (by omega))⟩
    · rw [cP_f hf, ih]
      refine ⟨fun h p hp => ?_, fun h p hp => h p (by omega)⟩
      by_cases e : p = n
      · subst e; exact hf
      · exact h p (by omega)
theorem cP_sp (f g : Nat → Prop) : ∀ n, cP (fun w => f w ∧ g w) n + cP (fun w => f w ∧ ¬ g w) n = cP f n
  | 0 => rfl
  | n + 1 => by
    have ih := cP_sp f g n
    by_cases hf : f n
    · by_cases hg : g n
      · rw [cP_t (f := fun w => f w ∧ g w) ⟨hf, hg⟩, cP_f (f := fun w => f w ∧ ¬ g w) (fun q => q.2 hg), cP_t hf]; omega
      · rw [cP_f (f := fun w => f w ∧ g w) (fun q => hg q.2), cP_t (f := fun w => f w ∧ ¬ g w) ⟨hf, hg⟩, cP_t hf]; omega
    · rw [cP_f (f := fun w => f w ∧ g w) (fun q => hf q.1), cP_f (f := fun w => f w ∧ ¬ g w) (fun q => hf q.1), cP_f hf]; exact ih
/-- in all that p can't tell from w his own mark is so -/
def sHas (N : Nat) (po : Nat → Prop) (lk : Nat → Nat → Prop) (p w : Nat) (b : Bool) : Prop := ∀ v, v < N → po v → lk w v → v.testBit p = b
def sGo (N : Nat) (po : Nat → Prop) (lk : Nat → Nat → Nat → Prop) (gn : Nat) (sty : Nat → Prop) (own : Prop) (w p : Nat) : Prop := ¬ gn.testBit p = true ∧ ¬ sty p ∧ (sHas N po (lk p) p w true ∨ (sHas N po (lk p) p w false ∧ own))
def vGn (I : zI) : Nat := (I 160 40).toNatClampNeg
def MG (I : zI) : Prop := vGn I < 256 ∧ I 160 40 = nI (vGn I)
def vSty (I : zI) (p : Nat) : Prop := ¬ I 173 (8 * vB I + p) = 0
def vOwn (I : zI) : Prop := ¬ I 171 (vB I) = 0
def vGo (I : zI) : Nat → Nat → Prop := sGo (vN I) (vPoss I) (vLike I) (vGn I) (vSty I) (vOwn I)
theorem nx_bit0 {m k : Nat} (hm : m < 2 ^ 31) (hk : k < 31) : ((nI m >>> (nI k &&& 31) : Int32) &&& 1 : Int32) = 0 ↔ m.testBit k = false := by
  rw [nx_bit hm hk, bP_0]; simp
theorem nx_bit1 {m k : Nat} (hm : m < 2 ^ 31) (hk : k < 31) : ((nI m >>> (nI k &&& 31) : Int32) &&& 1 : Int32) = 1 ↔ m.testBit k = true := by
  rw [nx_bit hm hk, bP_1]
theorem nx_set {m k : Nat} (hk : k < 31) : (nI m ||| ((1 : Int32) <<< (nI k &&& 31) : Int32) : Int32) = nI (m ||| 2 ^ k) := by
  have h2 : (2 : Nat) ^ k < 2 ^ 31 := Nat.pow_lt_pow_right (by decide) hk
  rw [show (1 : Int32) = nI 1 from rfl, nx_shl (by omega) (by omega), Nat.one_mul, nx_or]
abbrev gw_X12_goersIn (d : Nat) (Q : zQt) (pc : Nat) (lv : zV) (st : List Value) (I : zI) (L : zL) (P : zP) : Prop := zW zm_X12_goersIn (zRm d 0 0) 0 0 Q pc lv st I L P 205 0 0
abbrev v_X12_goersIn_173 (d : Nat) (Q : zQt) (p1 : Int32) (x2 : Int32) (x3 : Int32) (I : zI) (L : zL) (P : zP) : Prop :=
  gw_X12_goersIn (d + 1) Q 4 [some (.ref 160), some (.int p1), some (.int x2), some (.int (x3 + 1)), none, none, none] [] I L P
set_option maxRecDepth 20000 in
theorem g_X12_goersIn_173 {d : Nat} {Q : zQt} {p1 : Int32} {x2 : Int32} {x3 : Int32} {I : zI} {L : zL} {P : zP} (hP : zPk P) (hd : 1 ≤ d) (hv : v_X12_goersIn_173 d Q p1 x2 x3 I L P) : gw_X12_goersIn (d + 1) Q 173 [some (.ref 160), some (.int p1), some (.int x2), some (.int x3), none, none, none] [] I L P := by
  unfold v_X12_goersIn_173 at hv
  refine z_iinc (v2 := x3 + 1) (lv2 := [some (.ref 160), some (.int p1), some (.int x2), some (.int (x3 + 1)), none, none, none]) dX12_goersIn_173 rfl (by rfl) (by decide) rfl rfl ?_
  refine z_goto (tgt := 4) dX12_goersIn_176 (by decide) ?_
  exact hv
abbrev v_X12_goersIn_167 (d : Nat) (Q : zQt) (p1 : Int32) (x2 : Int32) (x3 : Int32) (I : zI) (L : zL) (P : zP) : Prop :=
  gw_X12_goersIn (d + 1) Q 173 [some (.ref 160), some (.int p1), some (.int (x2 ||| ((1 : Int32) <<< (x3 &&& 31) : Int32) : Int32)), some (.int x3), none, none, none] [] I L P
set_option maxRecDepth 20000 in
theorem g_X12_goersIn_167 {d : Nat} {Q : zQt} {p1 : Int32} {x2 : Int32} {x3 : Int32} {I : zI} {L : zL} {P : zP} (hP : zPk P) (hd : 1 ≤ d) (hv : v_X12_goersIn_167 d Q p1 x2 x3 I L P) : gw_X12_goersIn (d + 1) Q 167 [some (.ref 160), some (.int p1), some (.int x2), some (.int x3), none, none, none] [] I L P := by
  unfold v_X12_goersIn_167 at hv
  refine z_iload_n dX12_goersIn_167 rfl ?_
  refine z_iconst (v := 1) dX12_goersIn_168 (by decide) ?_
  refine z_iload_n dX12_goersIn_169 rfl ?_
  refine z_ishl dX12_goersIn_170 ?_
  refine z_ior dX12_goersIn_171 ?_
  refine z_istore_n (lv2 := [some (.ref 160), some (.int p1), some (.int (x2 ||| ((1 : Int32) <<< (x3 &&& 31) : Int32) : Int32)), some (.int x3), none, none, none]) dX12_goersIn_172 (by decide) rfl rfl ?_
  exact hv
abbrev v_X12_goersIn_145 (d : Nat) (Q : zQt) (p1 : Int32) (x2 : Int32) (x3 : Int32) (x4 : Int32) (x5 : Int32) (I : zI) (L : zL) (P : zP) : Prop :=
  ((¬ x4 = 0 →
    gw_X12_goersIn (d + 1) Q 167 [some (.ref 160), some (.int p1), some (.int x2), some (.int x3), none, none, none] [] I L P
  ) ∧ (x4 = 0 →
    ((x5 = 0 →
      gw_X12_goersIn (d + 1) Q 173 [some (.ref 160), some (.int p1), some (.int x2), some (.int x3), none, none, none] [] I L P
    ) ∧ (¬ x5 = 0 →
      vp_in (I 160 28) 2 ∧
      (((I 171 (I 160 28).toNatClampNeg) = 0 →
        gw_X12_goersIn (d + 1) Q 173 [some (.ref 160), some (.int p1), some (.int x2), some (.int x3), none, none, none] [] I L P
      ) ∧ (¬ (I 171 (I 160 28).toNatClampNeg) = 0 →
        gw_X12_goersIn (d + 1) Q 167 [some (.ref 160), some (.int p1), some (.int x2), some (.int x3), none, none, none] [] I L P
      ))
    ))
  ))
set_option maxRecDepth 20000 in
theorem g_X12_goersIn_145 {d : Nat} {Q : zQt} {p1 : Int32} {x2 : Int32} {x3 : Int32} {x4 : Int32} {x5 : Int32} {I : zI} {L : zL} {P : zP} (hP : zPk P) (hd : 1 ≤ d) (hv : v_X12_goersIn_145 d Q p1 x2 x3 x4 x5 I L P) : gw_X12_goersIn (d + 1) Q 145 [some (.ref 160), some (.int p1), some (.int x2), some (.int x3), some (.int x4), some (.int x5), none] [] I L P := by
  unfold v_X12_goersIn_145 at hv
  refine z_iload dX12_goersIn_145 rfl ?_
  refine z_if_ne (tgt := 167) dX12_goersIn_147 (by decide) (fun q14 => ?_) (fun q14 => ?_)
  · have hv := hv.1 q14
    exact z_sub (by exact ⟨rfl, ⟨rfl, ⟨rfl, ⟨rfl, trivial⟩⟩⟩⟩) hv
  · have hv := hv.2 q14
    refine z_iload dX12_goersIn_150 rfl ?_
    refine z_if_eq (tgt := 173) dX12_goersIn_152 (by decide) (fun q15 => ?_) (fun q15 => ?_)
    · have hv := hv.1 q15
      exact z_sub (by exact ⟨rfl, ⟨rfl, ⟨rfl, ⟨rfl, trivial⟩⟩⟩⟩) hv
    · have hv := hv.2 q15
      refine z_aload_n dX12_goersIn_155 rfl ?_
      refine z_getP dX12_goersIn_156 zf_X12_45 zn_160 zo_160 (fun _ _ _ _ _ => rfl) (hP 160 19 171 zp_160_19) ?_
      refine z_aload_n dX12_goersIn_159 rfl ?_
      refine z_getI dX12_goersIn_160 zf_X12_261 zn_160 zo_160 (fun _ _ _ _ _ => rfl) ?_
      obtain ⟨h16, hv⟩ := hv
      refine z_zaload dX12_goersIn_163 zn_171 zh_171 h16 ?_
      refine z_if_eq (tgt := 173) dX12_goersIn_164 (by decide) (fun q17 => ?_) (fun q17 => ?_)
      · have hv := hv.1 q17
        exact z_sub (by exact ⟨rfl, ⟨rfl, ⟨rfl, ⟨rfl, trivial⟩⟩⟩⟩) hv
      · have hv := hv.2 q17
        exact z_sub (by exact ⟨rfl, ⟨rfl, ⟨rfl, ⟨rfl, trivial⟩⟩⟩⟩) hv
abbrev v_X12_goersIn_137 (d : Nat) (Q : zQt) (p1 : Int32) (x2 : Int32) (x3 : Int32) (x4 : Int32) (x6 : Int32) (t0 : Int32) (I : zI) (L : zL) (P : zP) : Prop :=
  gw_X12_goersIn (d + 1) Q 53 [some (.ref 160), some (.int p1), some (.int x2), some (.int x3), some (.int x4), some (.int t0), some (.int (x6 + 1))] [] I L P
set_option maxRecDepth 20000 in
theorem g_X12_goersIn_137 {d : Nat} {Q : zQt} {p1 : Int32} {x2 : Int32} {x3 : Int32} {x4 : Int32} {x6 : Int32} {t0 : Int32} {I : zI} {L : zL} {P : zP} (hP : zPk P) (hd : 1 ≤ d) (hv : v_X12_goersIn_137 d Q p1 x2 x3 x4 x6 t0 I L P) : gw_X12_goersIn (d + 1) Q 137 [some (.ref 160), some (.int p1), some (.int x2), some (.int x3), some (.int x4), none, some (.int x6)] [.int t0] I L P := by
  unfold v_X12_goersIn_137 at hv
  refine z_istore (lv2 := [some (.ref 160), some (.int p1), some (.int x2), some (.int x3), some (.int x4), some (.int t0), some (.int x6)]) dX12_goersIn_137 (by decide) rfl rfl ?_
  refine z_iinc (v2 := x6 + 1) (lv2 := [some (.ref 160), some (.int p1), some (.int x2), some (.int x3), some (.int x4), some (.int t0), some (.int (x6 + 1))]) dX12_goersIn_139 rfl (by rfl) (by decide) rfl rfl ?_
  refine z_goto (tgt := 53) dX12_goersIn_142 (by decide) ?_
  exact hv
abbrev v_X12_goersIn_116 (d : Nat) (Q : zQt) (p1 : Int32) (x2 : Int32) (x3 : Int32) (x5 : Int32) (x6 : Int32) (t0 : Int32) (I : zI) (L : zL) (P : zP) : Prop :=
  ((x5 = 0 →
    gw_X12_goersIn (d + 1) Q 137 [some (.ref 160), some (.int p1), some (.int x2), some (.int x3), some (.int t0), none, some (.int x6)] [.int 0] I L P
  ) ∧ (¬ x5 = 0 →
    ((¬ ((x6 >>> (x3 &&& 31) : Int32) &&& 1 : Int32) = 0 →
      gw_X12_goersIn (d + 1) Q 137 [some (.ref 160), some (.int p1), some (.int x2), some (.int x3), some (.int t0), none, some (.int x6)] [.int 0] I L P
    ) ∧ (((x6 >>> (x3 &&& 31) : Int32) &&& 1 : Int32) = 0 →
      gw_X12_goersIn (d + 1) Q 137 [some (.ref 160), some (.int p1), some (.int x2), some (.int x3), some (.int t0), none, some (.int x6)] [.int 1] I L P
    ))
  ))
set_option maxRecDepth 20000 in
theorem g_X12_goersIn_116 {d : Nat} {Q : zQt} {p1 : Int32} {x2 : Int32} {x3 : Int32} {x5 : Int32} {x6 : Int32} {t0 : Int32} {I : zI} {L : zL} {P : zP} (hP : zPk P) (hd : 1 ≤ d) (hv : v_X12_goersIn_116 d Q p1 x2 x3 x5 x6 t0 I L P) : gw_X12_goersIn (d + 1) Q 116 [some (.ref 160), some (.int p1), some (.int x2), some (.int x3), none, some (.int x5), some (.int x6)] [.int t0] I L P := by
  unfold v_X12_goersIn_116 at hv
  refine z_istore (lv2 := [some (.ref 160), some (.int p1), some (.int x2), some (.int x3), some (.int t0), some (.int x5), some (.int x6)]) dX12_goersIn_116 (by decide) rfl rfl ?_
  refine z_iload dX12_goersIn_118 rfl ?_
  refine z_if_eq (tgt := 136) dX12_goersIn_120 (by decide) (fun q28 => ?_) (fun q28 => ?_)
  · have hv := hv.1 q28
    refine z_iconst (v := 0) dX12_goersIn_136 (by decide) ?_
    exact z_sub (by exact ⟨rfl, ⟨rfl, ⟨rfl, ⟨rfl, ⟨rfl, ⟨rfl, trivial⟩⟩⟩⟩⟩⟩) hv
  · have hv := hv.2 q28
    refine z_iload dX12_goersIn_123 rfl ?_
    refine z_iload_n dX12_goersIn_125 rfl ?_
    refine z_ishr dX12_goersIn_126 ?_
    refine z_iconst (v := 1) dX12_goersIn_127 (by decide) ?_
    refine z_iand dX12_goersIn_128 ?_
    refine z_if_ne (tgt := 136) dX12_goersIn_129 (by decide) (fun q29 => ?_) (fun q29 => ?_)
    · have hv := hv.1 q29
      refine z_iconst (v := 0) dX12_goersIn_136 (by decide) ?_
      exact z_sub (by exact ⟨rfl, ⟨rfl, ⟨rfl, ⟨rfl, ⟨rfl, ⟨rfl, trivial⟩⟩⟩⟩⟩⟩) hv
    · have hv := hv.2 q29
      refine z_iconst (v := 1) dX12_goersIn_132 (by decide) ?_
      refine z_goto (tgt := 137) dX12_goersIn_133 (by decide) ?_
      exact z_sub (by exact ⟨rfl, ⟨rfl, ⟨rfl, ⟨rfl, ⟨rfl, ⟨rfl, trivial⟩⟩⟩⟩⟩⟩) hv
abbrev v_X12_goersIn_72 (d : Nat) (Q : zQt) (p1 : Int32) (x2 : Int32) (x3 : Int32) (x4 : Int32) (x5 : Int32) (x6 : Int32) (I : zI) (L : zL) (P : zP) : Prop :=
  vp_in x6 256 ∧
  (((I 180 x6.toNatClampNeg) = 0 →
    gw_X12_goersIn (d + 1) Q 53 [some (.ref 160), some (.int p1), some (.int x2), some (.int x3), some (.int x4), some (.int x5), some (.int (x6 + 1))] [] I L P
  ) ∧ (¬ (I 180 x6.toNatClampNeg) = 0 →
    zMi zm_X12_areLike d [.ref 160, .int x3, .int p1, .int x6] I L P (fun r24 I20 L21 P22 =>
      ((¬ r24 = 0 →
        ((x4 = 0 →
          gw_X12_goersIn (d + 1) Q 116 [some (.ref 160), some (.int p1), some (.int x2), some (.int x3), none, some (.int x5), some (.int x6)] [.int 0] I20 L21 P22
        ) ∧ (¬ x4 = 0 →
          ((¬ ((x6 >>> (x3 &&& 31) : Int32) &&& 1 : Int32) = 1 →
            gw_X12_goersIn (d + 1) Q 116 [some (.ref 160), some (.int p1), some (.int x2), some (.int x3), none, some (.int x5), some (.int x6)] [.int 0] I20 L21 P22
          ) ∧ (((x6 >>> (x3 &&& 31) : Int32) &&& 1 : Int32) = 1 →
            gw_X12_goersIn (d + 1) Q 116 [some (.ref 160), some (.int p1), some (.int x2), some (.int x3), none, some (.int x5), some (.int x6)] [.int 1] I20 L21 P22
          ))
        ))
      ) ∧ (r24 = 0 →
        gw_X12_goersIn (d + 1) Q 53 [some (.ref 160), some (.int p1), some (.int x2), some (.int x3), some (.int x4), some (.int x5), some (.int (x6 + 1))] [] I20 L21 P22
      ))
    )
  ))
set_option maxRecDepth 20000 in
theorem g_X12_goersIn_72 {d : Nat} {Q : zQt} {p1 : Int32} {x2 : Int32} {x3 : Int32} {x4 : Int32} {x5 : Int32} {x6 : Int32} {I : zI} {L : zL} {P : zP} (hP : zPk P) (hd : 1 ≤ d) (hv : v_X12_goersIn_72 d Q p1 x2 x3 x4 x5 x6 I L P) : gw_X12_goersIn (d + 1) Q 72 [some (.ref 160), some (.int p1), some (.int x2), some (.int x3), some (.int x4), some (.int x5), some (.int x6)] [] I L P := by
  unfold v_X12_goersIn_72 at hv
  refine z_aload_n dX12_goersIn_72 rfl ?_
  refine z_getP dX12_goersIn_73 zf_X12_74 zn_160 zo_160 (fun _ _ _ _ _ => rfl) (hP 160 35 180 zp_160_35) ?_
  refine z_iload dX12_goersIn_76 rfl ?_
  obtain ⟨h18, hv⟩ := hv
  refine z_zaload dX12_goersIn_78 zn_180 zh_180 h18 ?_
  refine z_if_eq (tgt := 139) dX12_goersIn_79 (by decide) (fun q19 => ?_) (fun q19 => ?_)
  · have hv := hv.1 q19
    refine z_iinc (v2 := x6 + 1) (lv2 := [some (.ref 160), some (.int p1), some (.int x2), some (.int x3), some (.int x4), some (.int x5), some (.int (x6 + 1))]) dX12_goersIn_139 rfl (by rfl) (by decide) rfl rfl ?_
    refine z_goto (tgt := 53) dX12_goersIn_142 (by decide) ?_
    exact hv
  · have hv := hv.2 q19
    refine z_aload_n dX12_goersIn_82 rfl ?_
    refine z_iload_n dX12_goersIn_83 rfl ?_
    refine z_iload_n dX12_goersIn_84 rfl ?_
    refine z_iload dX12_goersIn_85 rfl ?_
    refine z_callV (As := [.int x3, .int p1, .int x6]) (st := []) dX12_goersIn_87 zl_X12_371 zv_X12_areLike (by decide) rfl zn_160 zo_160 rfl rfl (Nat.le_of_ble_eq_true rfl) ⟨Nat.le_refl _, Nat.le_refl _⟩ ⟨Nat.le_refl _, Nat.le_refl _⟩ hv (fun v1 I20 L21 P22 nx1 q23 => ?_)
    obtain ⟨rfl, r24, rfl, hv⟩ := q23
    refine z_if_ne (tgt := 96) dX12_goersIn_90 (by decide) (fun q25 => ?_) (fun q25 => ?_)
    · have hv := hv.1 q25
      refine z_iload dX12_goersIn_96 rfl ?_
      refine z_if_eq (tgt := 115) dX12_goersIn_98 (by decide) (fun q26 => ?_) (fun q26 => ?_)
      · have hv := hv.1 q26
        refine z_iconst (v := 0) dX12_goersIn_115 (by decide) ?_
        exact z_sub (by exact ⟨rfl, ⟨rfl, ⟨rfl, ⟨rfl, ⟨rfl, ⟨rfl, trivial⟩⟩⟩⟩⟩⟩) hv
      · have hv := hv.2 q26
        refine z_iload dX12_goersIn_101 rfl ?_
        refine z_iload_n dX12_goersIn_103 rfl ?_
        refine z_ishr dX12_goersIn_104 ?_
        refine z_iconst (v := 1) dX12_goersIn_105 (by decide) ?_
        refine z_iand dX12_goersIn_106 ?_
        refine z_iconst (v := 1) dX12_goersIn_107 (by decide) ?_
        refine z_icmp_ne (tgt := 115) dX12_goersIn_108 (by decide) (fun q27 => ?_) (fun q27 => ?_)
        · have hv := hv.1 q27
          refine z_iconst (v := 0) dX12_goersIn_115 (by decide) ?_
          exact z_sub (by exact ⟨rfl, ⟨rfl, ⟨rfl, ⟨rfl, ⟨rfl, ⟨rfl, trivial⟩⟩⟩⟩⟩⟩) hv
        · have hv := hv.2 q27
          refine z_iconst (v := 1) dX12_goersIn_111 (by decide) ?_
          refine z_goto (tgt := 116) dX12_goersIn_112 (by decide) ?_
          exact z_sub (by exact ⟨rfl, ⟨rfl, ⟨rfl, ⟨rfl, ⟨rfl, ⟨rfl, trivial⟩⟩⟩⟩⟩⟩) hv
    · have hv := hv.2 q25
      refine z_goto (tgt := 139) dX12_goersIn_93 (by decide) ?_
      refine z_iinc (v2 := x6 + 1) (lv2 := [some (.ref 160), some (.int p1), some (.int x2), some (.int x3), some (.int x4), some (.int x5), some (.int (x6 + 1))]) dX12_goersIn_139 rfl (by rfl) (by decide) rfl rfl ?_
      refine z_goto (tgt := 53) dX12_goersIn_142 (by decide) ?_
      exact hv
abbrev v_X12_goersIn_53 (d : Nat) (Q : zQt) (p1 : Int32) (x2 : Int32) (x3 : Int32) (x4 : Int32) (x5 : Int32) (x6 : Int32) (I : zI) (L : zL) (P : zP) : Prop :=
  MB I ∧
  (((nI (vN I)) ≤ x6 →
    gw_X12_goersIn (d + 1) Q 145 [some (.ref 160), some (.int p1), some (.int x2), some (.int x3), some (.int x4), some (.int x5), none] [] I L P
  ) ∧ (¬ (nI (vN I)) ≤ x6 →
    ((¬ x4 = 0 →
      gw_X12_goersIn (d + 1) Q 72 [some (.ref 160), some (.int p1), some (.int x2), some (.int x3), some (.int x4), some (.int x5), some (.int x6)] [] I L P
    ) ∧ (x4 = 0 →
      ((x5 = 0 →
        gw_X12_goersIn (d + 1) Q 145 [some (.ref 160), some (.int p1), some (.int x2), some (.int x3), some (.int x4), some (.int x5), none] [] I L P
      ) ∧ (¬ x5 = 0 →
        gw_X12_goersIn (d + 1) Q 72 [some (.ref 160), some (.int p1), some (.int x2), some (.int x3), some (.int x4), some (.int x5), some (.int x6)] [] I L P
      ))
    ))
  ))
set_option maxRecDepth 20000 in
theorem g_X12_goersIn_53 {d : Nat} {Q : zQt} {p1 : Int32} {x2 : Int32} {x3 : Int32} {x4 : Int32} {x5 : Int32} {x6 : Int32} {I : zI} {L : zL} {P : zP} (hP : zPk P) (hd : 1 ≤ d) (hv : v_X12_goersIn_53 d Q p1 x2 x3 x4 x5 x6 I L P) : gw_X12_goersIn (d + 1) Q 53 [some (.ref 160), some (.int p1), some (.int x2), some (.int x3), some (.int x4), some (.int x5), some (.int x6)] [] I L P := by
  unfold v_X12_goersIn_53 at hv
  refine z_iload dX12_goersIn_53 rfl ?_
  refine z_aload_n dX12_goersIn_55 rfl ?_
  obtain ⟨h8, hv⟩ := hv
  refine z_callV (As := []) (st := [.int x6]) dX12_goersIn_56 zl_X12_346 zv_X12_worldMany (by decide) rfl zn_160 zo_160 rfl rfl (Nat.le_of_ble_eq_true rfl) ⟨Nat.le_refl _, Nat.le_refl _⟩ ⟨Nat.le_refl _, Nat.le_refl _⟩ (sp_X12_worldMany hP h8 (by omega) (K := fun r I' L' P' => nI (vN I) = r ∧ I = I' ∧ L = L' ∧ P = P') ⟨rfl, rfl, rfl, rfl⟩) (fun v1 I2 L2 P2 nx1 q10 => ?_)
  obtain ⟨rfl, r9, rfl, rfl, rfl, rfl, rfl⟩ := q10
  refine z_icmp_ge (tgt := 145) dX12_goersIn_59 (by decide) (fun q11 => ?_) (fun q11 => ?_)
  · have hv := hv.1 q11
    exact z_sub (by exact ⟨rfl, ⟨rfl, ⟨rfl, ⟨rfl, ⟨rfl, ⟨rfl, trivial⟩⟩⟩⟩⟩⟩) hv
  · have hv := hv.2 q11
    refine z_iload dX12_goersIn_62 rfl ?_
    refine z_if_ne (tgt := 72) dX12_goersIn_64 (by decide) (fun q12 => ?_) (fun q12 => ?_)
    · have hv := hv.1 q12
      exact hv
    · have hv := hv.2 q12
      refine z_iload dX12_goersIn_67 rfl ?_
      refine z_if_eq (tgt := 145) dX12_goersIn_69 (by decide) (fun q13 => ?_) (fun q13 => ?_)
      · have hv := hv.1 q13
        exact z_sub (by exact ⟨rfl, ⟨rfl, ⟨rfl, ⟨rfl, ⟨rfl, ⟨rfl, trivial⟩⟩⟩⟩⟩⟩) hv
      · have hv := hv.2 q13
        exact hv
abbrev v_X12_goersIn_4 (d : Nat) (Q : zQt) (p1 : Int32) (x2 : Int32) (x3 : Int32) (I : zI) (L : zL) (P : zP) : Prop :=
  MB I ∧
  (((nI (vNp I)) ≤ x3 →
    Q (some (.int x2)) I L P 205
  ) ∧ (¬ (nI (vNp I)) ≤ x3 →
    (((((I 160 40) >>> (x3 &&& 31) : Int32) &&& 1 : Int32) = 1 →
      gw_X12_goersIn (d + 1) Q 173 [some (.ref 160), some (.int p1), some (.int x2), some (.int x3), none, none, none] [] I L P
    ) ∧ (¬ (((I 160 40) >>> (x3 &&& 31) : Int32) &&& 1 : Int32) = 1 →
      vp_in (((8 : Int32) * (I 160 28)) + x3) 16 ∧
      (((I 173 (((8 : Int32) * (I 160 28)) + x3).toNatClampNeg) = 0 →
        gw_X12_goersIn (d + 1) Q 53 [some (.ref 160), some (.int p1), some (.int x2), some (.int x3), some (.int 1), some (.int 1), some (.int 0)] [] I L P
      ) ∧ (¬ (I 173 (((8 : Int32) * (I 160 28)) + x3).toNatClampNeg) = 0 →
        gw_X12_goersIn (d + 1) Q 173 [some (.ref 160), some (.int p1), some (.int x2), some (.int x3), none, none, none] [] I L P
      ))
    ))
  ))
set_option maxRecDepth 20000 in
theorem g_X12_goersIn_4 {d : Nat} {Q : zQt} {p1 : Int32} {x2 : Int32} {x3 : Int32} {I : zI} {L : zL} {P : zP} (hP : zPk P) (hd : 1 ≤ d) (hv : v_X12_goersIn_4 d Q p1 x2 x3 I L P) : gw_X12_goersIn (d + 1) Q 4 [some (.ref 160), some (.int p1), some (.int x2), some (.int x3), none, none, none] [] I L P := by
  unfold v_X12_goersIn_4 at hv
  refine z_iload_n dX12_goersIn_4 rfl ?_
  refine z_aload_n dX12_goersIn_5 rfl ?_
  obtain ⟨h1, hv⟩ := hv
  refine z_callV (As := []) (st := [.int x3]) dX12_goersIn_6 zl_X12_339 zv_X12_manyOf (by decide) rfl zn_160 zo_160 rfl rfl (Nat.le_of_ble_eq_true rfl) ⟨Nat.le_refl _, Nat.le_refl _⟩ ⟨Nat.le_refl _, Nat.le_refl _⟩ (sp_X12_manyOf hP h1 (K := fun r I' L' P' => nI (vNp I) = r ∧ I = I' ∧ L = L' ∧ P = P') ⟨rfl, rfl, rfl, rfl⟩) (fun v1 I2 L2 P2 nx1 q3 => ?_)
  obtain ⟨rfl, r2, rfl, rfl, rfl, rfl, rfl⟩ := q3
  refine z_icmp_ge (tgt := 179) dX12_goersIn_9 (by decide) (fun q4 => ?_) (fun q4 => ?_)
  · have hv := hv.1 q4
    refine z_iload_n dX12_goersIn_179 rfl ?_
    exact z_ireturn dX12_goersIn_180 rfl rfl (Nat.le_refl _) (Nat.le_refl _) hv
  · have hv := hv.2 q4
    refine z_aload_n dX12_goersIn_12 rfl ?_
    refine z_getI dX12_goersIn_13 zf_X12_359 zn_160 zo_160 (fun _ _ _ _ _ => rfl) ?_
    refine z_iload_n dX12_goersIn_16 rfl ?_
    refine z_ishr dX12_goersIn_17 ?_
    refine z_iconst (v := 1) dX12_goersIn_18 (by decide) ?_
    refine z_iand dX12_goersIn_19 ?_
    refine z_iconst (v := 1) dX12_goersIn_20 (by decide) ?_
    refine z_icmp_eq (tgt := 173) dX12_goersIn_21 (by decide) (fun q5 => ?_) (fun q5 => ?_)
    · have hv := hv.1 q5
      exact hv
    · have hv := hv.2 q5
      refine z_aload_n dX12_goersIn_24 rfl ?_
      refine z_getP dX12_goersIn_25 zf_X12_52 zn_160 zo_160 (fun _ _ _ _ _ => rfl) (hP 160 21 173 zp_160_21) ?_
      refine z_bipush (v := 8) dX12_goersIn_28 (by decide) ?_
      refine z_aload_n dX12_goersIn_30 rfl ?_
      refine z_getI dX12_goersIn_31 zf_X12_261 zn_160 zo_160 (fun _ _ _ _ _ => rfl) ?_
      refine z_imul dX12_goersIn_34 ?_
      refine z_iload_n dX12_goersIn_35 rfl ?_
      refine z_iadd dX12_goersIn_36 ?_
      obtain ⟨h6, hv⟩ := hv
      refine z_zaload dX12_goersIn_37 zn_173 zh_173 h6 ?_
      refine z_if_eq (tgt := 44) dX12_goersIn_38 (by decide) (fun q7 => ?_) (fun q7 => ?_)
      · have hv := hv.1 q7
        refine z_iconst (v := 1) dX12_goersIn_44 (by decide) ?_
        refine z_istore (lv2 := [some (.ref 160), some (.int p1), some (.int x2), some (.int x3), some (.int 1), none, none]) dX12_goersIn_45 (by decide) rfl rfl ?_
        refine z_iconst (v := 1) dX12_goersIn_47 (by decide) ?_
        refine z_istore (lv2 := [some (.ref 160), some (.int p1), some (.int x2), some (.int x3), some (.int 1), some (.int 1), none]) dX12_goersIn_48 (by decide) rfl rfl ?_
        refine z_iconst (v := 0) dX12_goersIn_50 (by decide) ?_
        refine z_istore (lv2 := [some (.ref 160), some (.int p1), some (.int x2), some (.int x3), some (.int 1), some (.int 1), some (.int 0)]) dX12_goersIn_51 (by decide) rfl rfl ?_
        exact hv
      · have hv := hv.2 q7
        refine z_goto (tgt := 173) dX12_goersIn_41 (by decide) ?_
        exact hv
abbrev v_X12_goersIn (d : Nat) (Q : zQt) (p1 : Int32) (I : zI) (L : zL) (P : zP) : Prop :=
  gw_X12_goersIn (d + 1) Q 4 [some (.ref 160), some (.int p1), some (.int 0), some (.int 0), none, none, none] [] I L P
set_option maxRecDepth 20000 in
theorem g_X12_goersIn {d : Nat} {Q : zQt} {p1 : Int32} {I : zI} {L : zL} {P : zP} (hP : zPk P) (hd : 1 ≤ d) (hv : v_X12_goersIn d Q p1 I L P) : zM zm_X12_goersIn (d + 1) 0 0 [.ref 160, .int p1] I L P 205 Q := by
  unfold v_X12_goersIn at hv
  refine zM_of (lv0 := [some (.ref 160), some (.int p1), none, none, none, none, none]) (by decide +kernel) (Nat.le_of_ble_eq_true rfl) rfl ?_
  refine z_iconst (v := 0) dX12_goersIn_0 (by decide) ?_
  refine z_istore_n (lv2 := [some (.ref 160), some (.int p1), some (.int 0), none, none, none, none]) dX12_goersIn_1 (by decide) rfl rfl ?_
  refine z_iconst (v := 0) dX12_goersIn_2 (by decide) ?_
  refine z_istore_n (lv2 := [some (.ref 160), some (.int p1), some (.int 0), some (.int 0), none, none, none]) dX12_goersIn_3 (by decide) rfl rfl ?_
  exact hv
theorem lp_X12_goersIn_53 {d : Nat} {Q : zQt} {I : zI} {L : zL} {P : zP} {w p : Nat} {x2 : Int32} (hP : zPk P) (hE : ME I) (hw : w < vN I) (hp : p < vNp I) (hd : 3 ≤ d)
    (k : ∀ x4 x5 : Int32, x4 = bP (sHas (vN I) (vPoss I) (vLike I p) p w true) → x5 = bP (sHas (vN I) (vPoss I) (vLike I p) p w false) → gw_X12_goersIn (d + 1) Q 145 [some (.ref 160), some (.int (nI w)), some (.int x2), some (.int (nI p)), some (.int x4), some (.int x5), none] [] I L P) :
    ∀ n i x4 x5, i + n = vN I → x4 = bP (∀ v, v < i → vPoss I v → vLike I p w v → v.testBit p = true) → x5 = bP (∀ v, v < i → vPoss I v → vLike I p w v → v.testBit p = false) →
      gw_X12_goersIn (d + 1) Q 53 [some (.ref 160), some (.int (nI w)), some (.int x2), some (.int (nI p)), some (.int x4), some (.int x5), some (.int (nI i))] [] I L P := by
  have hN := vN_le hE.1
  have hnp := hE.1.2.1
  intro n
  induction n with
  | zero =>
    intro i x4 x5 hi e4 e5
    have hi2 : i = vN I := by omega
    subst hi2
    exact g_X12_goersIn_53 hP (by omega) ⟨hE.1, fun _ => k x4 x5 e4 e5, fun q => absurd (nI_le (Nat.le_refl _) (by omega)) q⟩
  | succ n ih =>
    intro i x4 x5 hi e4 e5
    have body : gw_X12_goersIn (d + 1) Q 72 [some (.ref 160), some (.int (nI w)), some (.int x2), some (.int (nI p)), some (.int x4), some (.int x5), some (.int (nI i))] [] I L P := by
      have skip : ¬ (vPoss I i ∧ vLike I p w i) → gw_X12_goersIn (d + 1) Q 53 [some (.ref 160), some (.int (nI w)), some (.int x2), some (.int (nI p)), some (.int x4), some (.int x5), some (.int (nI i + 1))] [] I L P := by
        intro hc
        rw [nI_1]
        refine ih (i + 1) x4 x5 (by omega) (e4.trans (bP_c ?_)) (e5.trans (bP_c ?_))
        · refine ⟨fun h v hv pv lv => ?_, fun h v hv => h v (by omega)⟩
          rcases Nat.lt_succ_iff_lt_or_eq.mp hv with q | q
          · exact h v q pv lv
          · subst q; exact absurd ⟨pv, lv⟩ hc
        · refine ⟨fun h v hv pv lv => ?_, fun h v hv => h v (by omega)⟩
          rcases Nat.lt_succ_iff_lt_or_eq.mp hv with q | q
          · exact h v q pv lv
          · subst q; exact absurd ⟨pv, lv⟩ hc
      have full : vPoss I i → vLike I p w i → ∀ t4 : Int32, t4 = bP (∀ v, v < i + 1 → vPoss I v → vLike I p w v → v.testBit p = true) → gw_X12_goersIn (d + 1) Q 116 [some (.ref 160), some (.int (nI w)), some (.int x2), some (.int (nI p)), none, some (.int x5), some (.int (nI i))] [.int t4] I L P := by
        intro pi li t4 et4
        have last : ∀ t5 : Int32, t5 = bP (∀ v, v < i + 1 → vPoss I v → vLike I p w v → v.testBit p = false) → gw_X12_goersIn (d + 1) Q 137 [some (.ref 160), some (.int (nI w)), some (.int x2), some (.int (nI p)), some (.int t4), none, some (.int (nI i))] [.int t5] I L P := by
          intro t5 et5
          refine g_X12_goersIn_137 hP (by omega) ?_
          unfold v_X12_goersIn_137
          rw [nI_1]
          exact ih (i + 1) t4 t5 (by omega) et4 et5
        refine g_X12_goersIn_116 hP (by omega) ⟨fun q => last 0 ?_, fun q => ⟨fun q2 => last 0 ?_, fun q2 => last 1 ?_⟩⟩
        · rw [e5, bP_0] at q
          exact (bP_f (fun h => q (fun v hv => h v (by omega)))).symm
        · rw [nx_bit0 (by omega) (by omega)] at q2
          exact (bP_f (fun h => q2 (h i (by omega) pi li))).symm
        · rw [e5, bP_n] at q
          rw [nx_bit0 (by omega) (by omega)] at q2
          refine (bP_t (fun v hv pv lv => ?_)).symm
          rcases Nat.lt_succ_iff_lt_or_eq.mp hv with z | z
          · exact q v z pv lv
          · subst z; exact q2
      refine g_X12_goersIn_72 hP (by omega) ⟨nx_in (by omega) (by decide), fun q => skip ?_, fun q => ?_⟩
      · rw [nI_cl (by omega)] at q
        exact fun h => h.1 q
      · rw [nI_cl (by omega)] at q
        refine sp_X12_areLike hP hE.1 hE.2.1 hE.2.2 hp (by omega) (by omega) (by omega) ⟨fun q2 => ?_, fun q2 => skip ?_⟩
        · rw [bP_n] at q2
          refine ⟨fun q3 => full q q2 0 ?_, fun q3 => ⟨fun q4 => full q q2 0 ?_, fun q4 => full q q2 1 ?_⟩⟩
          · rw [e4, bP_0] at q3
            exact (bP_f (fun h => q3 (fun v hv => h v (by omega)))).symm
          · rw [nx_bit1 (by omega) (by omega)] at q4
            exact (bP_f (fun h => q4 (h i (by omega) q q2))).symm
          · rw [e4, bP_n] at q3
            rw [nx_bit1 (by omega) (by omega)] at q4
            refine (bP_t (fun v hv pv lv => ?_)).symm
            rcases Nat.lt_succ_iff_lt_or_eq.mp hv with z | z
            · exact q3 v z pv lv
            · subst z; exact q4
        · rw [bP_0] at q2
          exact fun h => q2 h.2
    refine g_X12_goersIn_53 hP (by omega) ⟨hE.1, fun q => absurd q (nI_ge (by omega) (by omega)), fun _ => ⟨fun q => body, fun q => ⟨fun q2 => k x4 x5 ?_ ?_, fun q2 => body⟩⟩⟩
    · rw [q]
      rw [e4, bP_0] at q
      exact (bP_f (fun h => q (fun v hv => h v (by omega)))).symm
    · rw [q2]
      rw [e5, bP_0] at q2
      exact (bP_f (fun h => q2 (fun v hv => h v (by omega)))).symm
theorem lp_X12_goersIn_4 {d : Nat} {Q : zQt} {I : zI} {L : zL} {P : zP} {w : Nat} (hP : zPk P) (hE : ME I) (hG : MG I) (hw : w < vN I) (hd : 3 ≤ d) (k : Q (some (.int (nI (bset (vGo I w) (vNp I))))) I L P 205) :
    ∀ n p, p + n = vNp I → gw_X12_goersIn (d + 1) Q 4 [some (.ref 160), some (.int (nI w)), some (.int (nI (bset (vGo I w) p))), some (.int (nI p)), none, none, none] [] I L P := by
  have hN := vN_le hE.1
  have hnp := hE.1.2.1
  have hb := hE.1.1.1
  intro n
  induction n with
  | zero =>
    intro p hp
    have hp2 : p = vNp I := by omega
    subst hp2
    exact g_X12_goersIn_4 hP (by omega) ⟨hE.1, fun _ => k, fun q => absurd (nI_le (Nat.le_refl _) (by omega)) q⟩
  | succ n ih =>
    intro p hp
    have next : ∀ m, m = bset (vGo I w) (p + 1) → gw_X12_goersIn (d + 1) Q 173 [some (.ref 160), some (.int (nI w)), some (.int (nI m)), some (.int (nI p)), none, none, none] [] I L P := by
      intro m em
      subst em
      refine g_X12_goersIn_173 hP (by omega) ?_
      unfold v_X12_goersIn_173
      rw [nI_1]
      exact ih (p + 1) (by omega)
    have no : ¬ vGo I w p → gw_X12_goersIn (d + 1) Q 173 [some (.ref 160), some (.int (nI w)), some (.int (nI (bset (vGo I w) p))), some (.int (nI p)), none, none, none] [] I L P := fun h => next _ (bset_f h).symm
    have yes : vGo I w p → gw_X12_goersIn (d + 1) Q 167 [some (.ref 160), some (.int (nI w)), some (.int (nI (bset (vGo I w) p))), some (.int (nI p)), none, none, none] [] I L P := by
      intro h
      refine g_X12_goersIn_167 hP (by omega) ?_
      unfold v_X12_goersIn_167
      rw [nx_set (by omega)]
      exact next _ (bset_t h).symm
    have e1 : ((8 : Int32) * (I 160 28)) + nI p = nI (8 * vB I + p) := by
      rw [hE.1.1.2, show (8 : Int32) = nI 8 from rfl, pk_mul, nI_add]
    refine g_X12_goersIn_4 hP (by omega) ⟨hE.1, fun q => absurd q (nI_ge (by omega) (by omega)), fun _ => ⟨fun q => no ?_, fun q => ⟨by rw [e1]; exact nx_in (by omega) (by decide), fun q2 => ?_, fun q2 => no ?_⟩⟩⟩
    · rw [hG.2, nx_bit1 (by have := hG.1; omega) (by omega)] at q
      exact fun h => h.1 q
    · rw [hG.2, nx_bit1 (by have := hG.1; omega) (by omega)] at q
      rw [e1, nI_cl (by omega)] at q2
      have hst : ¬ vSty I p := fun h => h q2
      refine lp_X12_goersIn_53 hP hE hw (by omega) hd (fun x4 x5 e4 e5 => ?_) (vN I) 0 1 1 (by omega) (bP_t (fun v hv => absurd hv (Nat.not_lt_zero v))).symm (bP_t (fun v hv => absurd hv (Nat.not_lt_zero v))).symm
      refine g_X12_goersIn_145 hP (by omega) ⟨fun q3 => yes ?_, fun q3 => ⟨fun q4 => no ?_, fun q4 => ⟨by rw [hE.1.1.2]; exact nx_in hb (by decide), fun q5 => no ?_, fun q5 => yes ?_⟩⟩⟩
      · rw [e4, bP_n] at q3
        exact ⟨q, hst, Or.inl q3⟩
      · rw [e4, bP_0] at q3
        rw [e5, bP_0] at q4
        exact fun h => h.2.2.elim q3 (fun z => q4 z.1)
      · rw [e4, bP_0] at q3
        exact fun h => h.2.2.elim q3 (fun z => z.2 q5)
      · rw [e5, bP_n] at q4
        exact ⟨q, hst, Or.inr ⟨q4, q5⟩⟩
    · rw [e1, nI_cl (by omega)] at q2
      exact fun h => h.2.1 q2
theorem sp_X12_goersIn {d : Nat} {I : zI} {L : zL} {P : zP} {w : Nat} (hP : zPk P) (hE : ME I) (hG : MG I) (hw : w < vN I) (hd : 4 ≤ d) {K : Int32 → zI → zL → zP → Prop} (k : K (nI (bset (vGo I w) (vNp I))) I L P) : zMi zm_X12_goersIn d [.ref 160, .int (nI w)] I L P K := by
  obtain ⟨d, rfl⟩ : ∃ e, d = e + 1 := ⟨d - 1, by omega⟩
  exact g_X12_goersIn hP (by omega) (lp_X12_goersIn_4 hP hE hG hw (by omega) (qi k) (vNp I) 0 (by omega))
