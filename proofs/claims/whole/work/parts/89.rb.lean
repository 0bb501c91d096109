/-! ===== the class: ranks, what reading comes to ===== -/
/-- the reference's number of a rank of the class: of a joint, and of what a part asks for -/
def mRk (q : Nat) : Nat := if q = 0 then 1 else if q = 1 then 2 else if q = 2 then 4 else if q = 3 then 5 else 6
def tO (r : Nat) : Nat := if r = 0 then 0 else mRk (r - 1)
theorem rk_0 {k : Nat} (h : rkH k = 0) (hk : k < 512) : kRk (nI k) = -1 := by
  have : ∀ k, k < 512 → rkH k = 0 → kRk (nI k) = -1 := by decide +kernel
  exact this k hk h
theorem rk_1 {k : Nat} (h : rkH k ≠ 0) : ∃ q, q ≤ 4 ∧ kRk (nI k) = nI q ∧ mRk q = rkH k := by
  rcases rkH_k h with rfl | rfl | rfl | rfl | rfl | rfl | rfl | rfl | rfl
  · exact ⟨1, by decide, by decide, by decide⟩
  · exact ⟨0, by decide, by decide, by decide⟩
  · exact ⟨2, by decide, by decide, by decide⟩
  · exact ⟨2, by decide, by decide, by decide⟩
  · exact ⟨2, by decide, by decide, by decide⟩
  · exact ⟨3, by decide, by decide, by decide⟩
  · exact ⟨3, by decide, by decide, by decide⟩
  · exact ⟨4, by decide, by decide, by decide⟩
  · exact ⟨4, by decide, by decide, by decide⟩
theorem tO_lt : ∀ r, r < 6 → ∀ q, q < 5 → (tO r < mRk q ↔ r ≤ q) := by decide
theorem mRk_le : ∀ h, h < 5 → ∀ q, q < 5 → (mRk q ≤ mRk h ↔ q ≤ h) := by decide
theorem tO_le : ∀ r, r < 6 → (tO r ≤ 3 ↔ r ≤ 2) ∧ tO r ≤ 6 := by decide
section RQ
variable {T : Nat → Int32} {n lim cc m : Nat} {L : zL}
def rQ (T : Nat → Int32) (n : Nat) (L : zL) (lim cc m : Nat) (I0 : zI) (K : zI → Prop) : Rs → Prop
  | .inl q => ∀ I', cFr [17, cc, cc + 1] I0 I' → rB q.1 q.2 I' → (∃ m', m' ≤ 600 ∧ I' cc 1 = nI m') → K I'
  | .inr (e', u', c) => ∀ I', cFr [17, cc, cc + 1] I0 I' → I' 17 5 = I0 17 5 → rG T n I' L e' → I' 17 6 = nI u' → u' ≤ lim → I' cc 1 = nI (m + c.length) → (∀ j, j < m → I' (cc + 1) j = I0 (cc + 1) j) → cT cc I' m c → K I'
/-- where reading stands -/
def rX (P : zP) (t np cc lim : Nat) (I : zI) : Prop := P 17 3 = some t ∧ P 17 4 = some cc ∧ iH t np I ∧ co cc ∧ I 17 5 = nI lim ∧ lim ≤ 60
theorem rX_c {P : zP} {t np : Nat} {I I' : zI} (h : rX P t np cc lim I) (hf : cFr [17, cc, cc + 1] I I') (h5 : I' 17 5 = I 17 5) : rX P t np cc lim I' := by
  obtain ⟨h1, h2, h3, h4, h6, h7⟩ := h
  have a := h3.1
  have b := h4
  unfold il at a
  unfold co at b
  exact ⟨h1, h2, iH_c h3 (hf t (by simp only [List.mem_cons, List.not_mem_nil, or_false]; omega)), h4, by rw [h5]; exact h6, h7⟩
theorem cT_app {I : zI} {b : Nat} {c c' : Cd} (h : cT cc I b c) (h' : cT cc I (b + c.length) c') : cT cc I b (c ++ c') := by
  intro i x hx
  by_cases hi : i < c.length
  · rw [List.getElem?_append_left hi] at hx; exact h i x hx
  · rw [List.getElem?_append_right (by omega)] at hx
    have := h' (i - c.length) x hx
    rw [← this]
    congr 1
    omega
theorem cT_one {I : zI} {b : Nat} {x : Nat × Int32} (h : I (cc + 1) b = enc x) : cT cc I b [x] := by
  intro i y hy
  cases i with
  | zero => simp at hy; rw [← hy]; exact h
  | succ i => simp at hy
theorem cT_c {I I' : zI} {b : Nat} {c : Cd} (h : cT cc I b c) (he : ∀ j, j < b + c.length → I' (cc + 1) j = I (cc + 1) j) : cT cc I' b c := by
  intro i x hx
  have := (List.getElem?_eq_some_iff.mp hx).1
  rw [he (b + i) (by omega)]
  exact h i x hx
theorem cT_nil {I : zI} {b : Nat} : cT cc I b [] := fun i x hx => by simp at hx
end RQ
abbrev gw_X5_readUnit (d : Nat) (Q : zQt) (pc : Nat) (lv : zV) (st : List Value) (I : zI) (L : zL) (P : zP) : Prop := zW zm_X5_readUnit (zRm d 0 0) 0 0 Q pc lv st I L P 205 0 0
abbrev v_X5_readUnit_118 (d : Nat) (Q : zQt) (p1 : Int32) (x2 : Int32) (x3 : Int32) (x4 : Int32) (I : zI) (L : zL) (P : zP) : Prop :=
  ((x3 = 0 →
    ((x2 = 40 →
      Q none I L P 205
    ) ∧ (¬ x2 = 40 →
      ∃ b52 : Nat, P 17 4 = some b52 ∧
      (b52 < 205 ∧ (zsh b52).1 = 0) ∧
      zMv zm_X0_add d [.ref b52, .int x2, .int x4] I L P (fun I55 L56 P57 =>
        Q none I55 L56 P57 205
      )
    ))
  ) ∧ (¬ x3 = 0 →
    ((x2 = 40 →
      zMv zm_X5_readPart d [.ref 17, .int 0, .int (p1 + 1)] I L P (fun I61 L62 P63 =>
        zMv zm_X5_expect d [.ref 17, .int 41] I61 L62 P63 (fun I66 L67 P68 =>
          Q none I66 L67 P68 205
        )
      )
    ) ∧ (¬ x2 = 40 →
      zMv zm_X5_expect d [.ref 17, .int 40] I L P (fun I72 L73 P74 =>
        zMv zm_X5_readPart d [.ref 17, .int 0, .int (p1 + 1)] I72 L73 P74 (fun I77 L78 P79 =>
          zMv zm_X5_expect d [.ref 17, .int 41] I77 L78 P79 (fun I82 L83 P84 =>
            ∃ b88 : Nat, P84 17 4 = some b88 ∧
            (b88 < 205 ∧ (zsh b88).1 = 0) ∧
            zMv zm_X0_add d [.ref b88, .int x2, .int x4] I82 L83 P84 (fun I91 L92 P93 =>
              Q none I91 L92 P93 205
            )
          )
        )
      )
    ))
  ))
set_option maxRecDepth 20000 in
theorem g_X5_readUnit_118 {d : Nat} {Q : zQt} {p1 : Int32} {x2 : Int32} {x3 : Int32} {x4 : Int32} {I : zI} {L : zL} {P : zP} (hP : zPk P) (hd : 1 ≤ d) (hv : v_X5_readUnit_118 d Q p1 x2 x3 x4 I L P) : gw_X5_readUnit (d + 1) Q 118 [some (.ref 17), some (.int p1), some (.int x2), some (.int x3), some (.int x4)] [] I L P := by
  unfold v_X5_readUnit_118 at hv
  refine z_iload_n dX5_readUnit_118 rfl ?_
  refine z_if_eq (tgt := 148) dX5_readUnit_119 (by decide) (fun q50 => ?_) (fun q50 => ?_)
  · have hv := hv.1 q50
    refine z_iload_n dX5_readUnit_148 rfl ?_
    refine z_bipush (v := 40) dX5_readUnit_149 (by decide) ?_
    refine z_icmp_eq (tgt := 164) dX5_readUnit_151 (by decide) (fun q51 => ?_) (fun q51 => ?_)
    · have hv := hv.1 q51
      exact z_return dX5_readUnit_164 rfl (Nat.le_refl _) (Nat.le_refl _) hv
    · have hv := hv.2 q51
      refine z_aload_n dX5_readUnit_154 rfl ?_
      obtain ⟨b52, h53, hv⟩ := hv
      refine z_getP dX5_readUnit_155 zf_X5_45 zn_17 zo_17 (fun _ _ _ _ _ => rfl) h53 ?_
      refine z_iload_n dX5_readUnit_158 rfl ?_
      refine z_iload dX5_readUnit_159 rfl ?_
      obtain ⟨h54, hv⟩ := hv
      refine z_callV (As := [.int x2, .int x4]) (st := []) dX5_readUnit_161 zl_X5_159 zv_X0_add (by decide) rfl h54.1 h54.2 rfl rfl (Nat.le_of_ble_eq_true rfl) ⟨Nat.le_refl _, Nat.le_refl _⟩ ⟨Nat.le_refl _, Nat.le_refl _⟩ hv (fun v1 I55 L56 P57 nx1 q58 => ?_)
      obtain ⟨rfl, rfl, hv⟩ := q58
      exact z_return dX5_readUnit_164 rfl (Nat.le_refl _) (Nat.le_refl _) hv
  · have hv := hv.2 q50
    refine z_iload_n dX5_readUnit_122 rfl ?_
    refine z_bipush (v := 40) dX5_readUnit_123 (by decide) ?_
    refine z_icmp_eq (tgt := 134) dX5_readUnit_125 (by decide) (fun q60 => ?_) (fun q60 => ?_)
    · have hv := hv.1 q60
      refine z_aload_n dX5_readUnit_134 rfl ?_
      refine z_iconst (v := 0) dX5_readUnit_135 (by decide) ?_
      refine z_iload_n dX5_readUnit_136 rfl ?_
      refine z_iconst (v := 1) dX5_readUnit_137 (by decide) ?_
      refine z_iadd dX5_readUnit_138 ?_
      refine z_callV (As := [.int 0, .int (p1 + 1)]) (st := []) dX5_readUnit_139 zl_X5_86 zv_X5_readPart (by decide) rfl zn_17 zo_17 rfl rfl (Nat.le_of_ble_eq_true rfl) ⟨Nat.le_refl _, Nat.le_refl _⟩ ⟨Nat.le_refl _, Nat.le_refl _⟩ hv (fun v1 I61 L62 P63 nx1 q64 => ?_)
      obtain ⟨rfl, rfl, hv⟩ := q64
      refine z_aload_n dX5_readUnit_142 rfl ?_
      refine z_bipush (v := 41) dX5_readUnit_143 (by decide) ?_
      refine z_callV (As := [.int 41]) (st := []) dX5_readUnit_145 zl_X5_77 zv_X5_expect (by decide) rfl zn_17 zo_17 rfl rfl (Nat.le_of_ble_eq_true rfl) ⟨Nat.le_refl _, Nat.le_refl _⟩ ⟨Nat.le_refl _, Nat.le_refl _⟩ hv (fun v1 I66 L67 P68 nx1 q69 => ?_)
      obtain ⟨rfl, rfl, hv⟩ := q69
      refine z_iload_n dX5_readUnit_148 rfl ?_
      refine z_bipush (v := 40) dX5_readUnit_149 (by decide) ?_
      refine z_icmp_eq (tgt := 164) dX5_readUnit_151 (by decide) (fun q71 => ?_) (fun q71 => ?_)
      · skip
        exact z_return dX5_readUnit_164 rfl (Nat.le_refl _) (Nat.le_refl _) hv
      · exact absurd q60 q71
    · have hv := hv.2 q60
      refine z_aload_n dX5_readUnit_128 rfl ?_
      refine z_bipush (v := 40) dX5_readUnit_129 (by decide) ?_
      refine z_callV (As := [.int 40]) (st := []) dX5_readUnit_131 zl_X5_77 zv_X5_expect (by decide) rfl zn_17 zo_17 rfl rfl (Nat.le_of_ble_eq_true rfl) ⟨Nat.le_refl _, Nat.le_refl _⟩ ⟨Nat.le_refl _, Nat.le_refl _⟩ hv (fun v1 I72 L73 P74 nx1 q75 => ?_)
      obtain ⟨rfl, rfl, hv⟩ := q75
      refine z_aload_n dX5_readUnit_134 rfl ?_
      refine z_iconst (v := 0) dX5_readUnit_135 (by decide) ?_
      refine z_iload_n dX5_readUnit_136 rfl ?_
      refine z_iconst (v := 1) dX5_readUnit_137 (by decide) ?_
      refine z_iadd dX5_readUnit_138 ?_
      refine z_callV (As := [.int 0, .int (p1 + 1)]) (st := []) dX5_readUnit_139 zl_X5_86 zv_X5_readPart (by decide) rfl zn_17 zo_17 rfl rfl (Nat.le_of_ble_eq_true rfl) ⟨Nat.le_refl _, Nat.le_refl _⟩ ⟨Nat.le_refl _, Nat.le_refl _⟩ hv (fun v1 I77 L78 P79 nx1 q80 => ?_)
      obtain ⟨rfl, rfl, hv⟩ := q80
      refine z_aload_n dX5_readUnit_142 rfl ?_
      refine z_bipush (v := 41) dX5_readUnit_143 (by decide) ?_
      refine z_callV (As := [.int 41]) (st := []) dX5_readUnit_145 zl_X5_77 zv_X5_expect (by decide) rfl zn_17 zo_17 rfl rfl (Nat.le_of_ble_eq_true rfl) ⟨Nat.le_refl _, Nat.le_refl _⟩ ⟨Nat.le_refl _, Nat.le_refl _⟩ hv (fun v1 I82 L83 P84 nx1 q85 => ?_)
      obtain ⟨rfl, rfl, hv⟩ := q85
      refine z_iload_n dX5_readUnit_148 rfl ?_
      refine z_bipush (v := 40) dX5_readUnit_149 (by decide) ?_
      refine z_icmp_eq (tgt := 164) dX5_readUnit_151 (by decide) (fun q87 => ?_) (fun q87 => ?_)
      · exact absurd q87 q60
      · skip
        refine z_aload_n dX5_readUnit_154 rfl ?_
        obtain ⟨b88, h89, hv⟩ := hv
        refine z_getP dX5_readUnit_155 zf_X5_45 zn_17 zo_17 (fun _ _ _ _ _ => rfl) h89 ?_
        refine z_iload_n dX5_readUnit_158 rfl ?_
        refine z_iload dX5_readUnit_159 rfl ?_
        obtain ⟨h90, hv⟩ := hv
        refine z_callV (As := [.int x2, .int x4]) (st := []) dX5_readUnit_161 zl_X5_159 zv_X0_add (by decide) rfl h90.1 h90.2 rfl rfl (Nat.le_of_ble_eq_true rfl) ⟨Nat.le_refl _, Nat.le_refl _⟩ ⟨Nat.le_refl _, Nat.le_refl _⟩ hv (fun v1 I91 L92 P93 nx1 q94 => ?_)
        obtain ⟨rfl, rfl, hv⟩ := q94
        exact z_return dX5_readUnit_164 rfl (Nat.le_refl _) (Nat.le_refl _) hv
abbrev v_X5_readUnit_104 (d : Nat) (Q : zQt) (p1 : Int32) (x2 : Int32) (x3 : Int32) (I : zI) (L : zL) (P : zP) : Prop :=
  zMi zm_X5_readName d [.ref 17] I L P (fun r44 I40 L41 P42 =>
    zMv zm_X5_advance d [.ref 17] I40 L41 P42 (fun I45 L46 P47 =>
      gw_X5_readUnit (d + 1) Q 118 [some (.ref 17), some (.int p1), some (.int x2), some (.int x3), some (.int (if r44 < 0 then 0 else r44))] [] I45 L46 P47
    )
  )
set_option maxRecDepth 20000 in
theorem g_X5_readUnit_104 {d : Nat} {Q : zQt} {p1 : Int32} {x2 : Int32} {x3 : Int32} {I : zI} {L : zL} {P : zP} (hP : zPk P) (hd : 1 ≤ d) (hv : v_X5_readUnit_104 d Q p1 x2 x3 I L P) : gw_X5_readUnit (d + 1) Q 104 [some (.ref 17), some (.int p1), some (.int x2), some (.int x3), none] [] I L P := by
  unfold v_X5_readUnit_104 at hv
  refine z_aload_n dX5_readUnit_104 rfl ?_
  refine z_callV (As := []) (st := []) dX5_readUnit_105 zl_X5_135 zv_X5_readName (by decide) rfl zn_17 zo_17 rfl rfl (Nat.le_of_ble_eq_true rfl) ⟨Nat.le_refl _, Nat.le_refl _⟩ ⟨Nat.le_refl _, Nat.le_refl _⟩ hv (fun v1 I40 L41 P42 nx1 q43 => ?_)
  obtain ⟨rfl, r44, rfl, hv⟩ := q43
  refine z_iconst (v := 0) dX5_readUnit_108 (by decide) ?_
  refine z_mmax dX5_readUnit_109 zl_X5_174 (Nat.le_of_ble_eq_true rfl) ⟨Nat.le_add_left _ _, zr64 _⟩ (Nat.zero_le _) (Nat.zero_le _) ?_
  refine z_istore (lv2 := [some (.ref 17), some (.int p1), some (.int x2), some (.int x3), some (.int (if r44 < 0 then 0 else r44))]) dX5_readUnit_112 (by decide) rfl rfl ?_
  refine z_aload_n dX5_readUnit_114 rfl ?_
  refine z_callV (As := []) (st := []) dX5_readUnit_115 zl_X5_101 zv_X5_advance (by decide) rfl zn_17 zo_17 rfl rfl (Nat.le_of_ble_eq_true rfl) ⟨Nat.le_refl _, Nat.le_refl _⟩ ⟨Nat.le_refl _, Nat.le_refl _⟩ hv (fun v1 I45 L46 P47 nx1 q48 => ?_)
  obtain ⟨rfl, rfl, hv⟩ := q48
  exact hv
abbrev v_X5_readUnit_79 (d : Nat) (Q : zQt) (p1 : Int32) (x2 : Int32) (x3 : Int32) (x4 : Int32) (I : zI) (L : zL) (P : zP) : Prop :=
  zMv zm_X5_advance d [.ref 17] I L P (fun I32 L33 P34 =>
    ((x2 = 262 →
      gw_X5_readUnit (d + 1) Q 104 [some (.ref 17), some (.int p1), some (.int x2), some (.int x3), none] [] I32 L33 P34
    ) ∧ (¬ x2 = 262 →
      ((x2 = 269 →
        gw_X5_readUnit (d + 1) Q 104 [some (.ref 17), some (.int p1), some (.int x2), some (.int x3), none] [] I32 L33 P34
      ) ∧ (¬ x2 = 269 →
        ((¬ x2 = 270 →
          gw_X5_readUnit (d + 1) Q 118 [some (.ref 17), some (.int p1), some (.int x2), some (.int x3), some (.int x4)] [] I32 L33 P34
        ) ∧ (x2 = 270 →
          gw_X5_readUnit (d + 1) Q 104 [some (.ref 17), some (.int p1), some (.int x2), some (.int x3), none] [] I32 L33 P34
        ))
      ))
    ))
  )
set_option maxRecDepth 20000 in
theorem g_X5_readUnit_79 {d : Nat} {Q : zQt} {p1 : Int32} {x2 : Int32} {x3 : Int32} {x4 : Int32} {I : zI} {L : zL} {P : zP} (hP : zPk P) (hd : 1 ≤ d) (hv : v_X5_readUnit_79 d Q p1 x2 x3 x4 I L P) : gw_X5_readUnit (d + 1) Q 79 [some (.ref 17), some (.int p1), some (.int x2), some (.int x3), some (.int x4)] [] I L P := by
  unfold v_X5_readUnit_79 at hv
  refine z_aload_n dX5_readUnit_79 rfl ?_
  refine z_callV (As := []) (st := []) dX5_readUnit_80 zl_X5_101 zv_X5_advance (by decide) rfl zn_17 zo_17 rfl rfl (Nat.le_of_ble_eq_true rfl) ⟨Nat.le_refl _, Nat.le_refl _⟩ ⟨Nat.le_refl _, Nat.le_refl _⟩ hv (fun v1 I32 L33 P34 nx1 q35 => ?_)
  obtain ⟨rfl, rfl, hv⟩ := q35
  refine z_iload_n dX5_readUnit_83 rfl ?_
  refine z_sipush (v := 262) dX5_readUnit_84 (by decide) ?_
  refine z_icmp_eq (tgt := 104) dX5_readUnit_87 (by decide) (fun q37 => ?_) (fun q37 => ?_)
  · have hv := hv.1 q37
    exact z_sub (by exact ⟨rfl, ⟨rfl, ⟨rfl, ⟨rfl, trivial⟩⟩⟩⟩) hv
  · have hv := hv.2 q37
    refine z_iload_n dX5_readUnit_90 rfl ?_
    refine z_sipush (v := 269) dX5_readUnit_91 (by decide) ?_
    refine z_icmp_eq (tgt := 104) dX5_readUnit_94 (by decide) (fun q38 => ?_) (fun q38 => ?_)
    · have hv := hv.1 q38
      exact z_sub (by exact ⟨rfl, ⟨rfl, ⟨rfl, ⟨rfl, trivial⟩⟩⟩⟩) hv
    · have hv := hv.2 q38
      refine z_iload_n dX5_readUnit_97 rfl ?_
      refine z_sipush (v := 270) dX5_readUnit_98 (by decide) ?_
      refine z_icmp_ne (tgt := 118) dX5_readUnit_101 (by decide) (fun q39 => ?_) (fun q39 => ?_)
      · have hv := hv.1 q39
        exact hv
      · have hv := hv.2 q39
        exact z_sub (by exact ⟨rfl, ⟨rfl, ⟨rfl, ⟨rfl, trivial⟩⟩⟩⟩) hv
abbrev v_X5_readUnit_44 (d : Nat) (Q : zQt) (p1 : Int32) (x2 : Int32) (x3 : Int32) (I : zI) (L : zL) (P : zP) : Prop :=
  ∀ I24 : zI, I24 = zuI I 17 6 ((I 17 6) + 1) →
  ((¬ x2 = 274 →
    gw_X5_readUnit (d + 1) Q 79 [some (.ref 17), some (.int p1), some (.int x2), some (.int x3), some (.int 0)] [] I24 L P
  ) ∧ (x2 = 274 →
    zMl zm_X9_valueOf d [.ref 18, .int (I24 17 7)] I24 L P (fun r31 I27 L28 P29 =>
      gw_X5_readUnit (d + 1) Q 79 [some (.ref 17), some (.int p1), some (.int x2), some (.int x3), some (.int ((r31 : Int64).toInt32))] [] I27 L28 P29
    )
  ))
set_option maxRecDepth 20000 in
theorem g_X5_readUnit_44 {d : Nat} {Q : zQt} {p1 : Int32} {x2 : Int32} {x3 : Int32} {I : zI} {L : zL} {P : zP} (hP : zPk P) (hd : 1 ≤ d) (hv : v_X5_readUnit_44 d Q p1 x2 x3 I L P) : gw_X5_readUnit (d + 1) Q 44 [some (.ref 17), some (.int p1), some (.int x2), some (.int x3), none] [] I L P := by
  unfold v_X5_readUnit_44 at hv
  refine z_aload_n dX5_readUnit_44 rfl ?_
  refine z_dup dX5_readUnit_45 rfl ?_
  refine z_getI dX5_readUnit_46 zf_X5_21 zn_17 zo_17 (fun _ _ _ _ _ => rfl) ?_
  refine z_iconst (v := 1) dX5_readUnit_49 (by decide) ?_
  refine z_iadd dX5_readUnit_50 ?_
  refine z_putI dX5_readUnit_51 zf_X5_21 zn_17 zo_17 (Or.inl rfl) (fun _ _ _ _ _ => rfl) rfl rfl (z_nmI (fun I24 e25 => ?_))
  have hv := hv I24 e25
  refine z_iload_n dX5_readUnit_54 rfl ?_
  refine z_sipush (v := 274) dX5_readUnit_55 (by decide) ?_
  refine z_icmp_ne (tgt := 76) dX5_readUnit_58 (by decide) (fun q26 => ?_) (fun q26 => ?_)
  · have hv := hv.1 q26
    refine z_iconst (v := 0) dX5_readUnit_76 (by decide) ?_
    refine z_istore (lv2 := [some (.ref 17), some (.int p1), some (.int x2), some (.int x3), some (.int 0)]) dX5_readUnit_77 (by decide) rfl rfl ?_
    exact hv
  · have hv := hv.2 q26
    refine z_aload_n dX5_readUnit_61 rfl ?_
    refine z_getP dX5_readUnit_62 zf_X5_37 zn_17 zo_17 (fun _ _ _ _ _ => rfl) (hP 17 2 18 zp_17_2) ?_
    refine z_aload_n dX5_readUnit_65 rfl ?_
    refine z_getI dX5_readUnit_66 zf_X5_24 zn_17 zo_17 (fun _ _ _ _ _ => rfl) ?_
    refine z_callV (As := [.int (I24 17 7)]) (st := []) dX5_readUnit_69 zl_X5_104 zv_X9_valueOf (by decide) rfl zn_18 zo_18 rfl rfl (Nat.le_of_ble_eq_true rfl) ⟨Nat.le_refl _, Nat.le_refl _⟩ ⟨Nat.le_refl _, Nat.le_refl _⟩ hv (fun v1 I27 L28 P29 nx1 q30 => ?_)
    obtain ⟨rfl, r31, rfl, hv⟩ := q30
    refine z_l2i dX5_readUnit_72 ?_
    refine z_goto (tgt := 77) dX5_readUnit_73 (by decide) ?_
    refine z_istore (lv2 := [some (.ref 17), some (.int p1), some (.int x2), some (.int x3), some (.int ((r31 : Int64).toInt32))]) dX5_readUnit_77 (by decide) rfl rfl ?_
    exact hv
abbrev v_X5_readUnit (d : Nat) (Q : zQt) (p1 : Int32) (I : zI) (L : zL) (P : zP) : Prop :=
  (((bP (kLf (I 17 8) ∨ kOp (I 17 8))) = 0 →
    zMv zm_X5_fail d [.ref 17, .int 2] I L P (fun I6 L7 P8 =>
      Q none I6 L7 P8 205
    )
  ) ∧ (¬ (bP (kLf (I 17 8) ∨ kOp (I 17 8))) = 0 →
    (((I 17 5) ≤ (I 17 6) →
      zMv zm_X5_fail d [.ref 17, .int 2] I L P (fun I12 L13 P14 =>
        Q none I12 L13 P14 205
      )
    ) ∧ (¬ (I 17 5) ≤ (I 17 6) →
      (((bP (kOp (I 17 8))) = 0 →
        gw_X5_readUnit (d + 1) Q 44 [some (.ref 17), some (.int p1), some (.int (I 17 8)), some (.int (bP (kOp (I 17 8)))), none] [] I L P
      ) ∧ (¬ (bP (kOp (I 17 8))) = 0 →
        ((p1 ≤ 6 →
          gw_X5_readUnit (d + 1) Q 44 [some (.ref 17), some (.int p1), some (.int (I 17 8)), some (.int (bP (kOp (I 17 8)))), none] [] I L P
        ) ∧ (¬ p1 ≤ 6 →
          zMv zm_X5_fail d [.ref 17, .int 2] I L P (fun I19 L20 P21 =>
            Q none I19 L20 P21 205
          )
        ))
      ))
    ))
  ))
set_option maxRecDepth 20000 in
theorem g_X5_readUnit {d : Nat} {Q : zQt} {p1 : Int32} {I : zI} {L : zL} {P : zP} (hP : zPk P) (hd : 1 ≤ d) (hv : v_X5_readUnit d Q p1 I L P) : zM zm_X5_readUnit (d + 1) 0 0 [.ref 17, .int p1] I L P 205 Q := by
  unfold v_X5_readUnit at hv
  refine zM_of (lv0 := [some (.ref 17), some (.int p1), none, none, none]) (by decide +kernel) (Nat.le_of_ble_eq_true rfl) rfl ?_
  refine z_aload_n dX5_readUnit_0 rfl ?_
  refine z_getI dX5_readUnit_1 zf_X5_29 zn_17 zo_17 (fun _ _ _ _ _ => rfl) ?_
  refine z_istore_n (lv2 := [some (.ref 17), some (.int p1), some (.int (I 17 8)), none, none]) dX5_readUnit_4 (by decide) rfl rfl ?_
  refine z_iload_n dX5_readUnit_5 rfl ?_
  refine z_callS (As := [.int (I 17 8)]) (st := []) dX5_readUnit_6 zl_X5_168 zs_X3_opens rfl rfl (Nat.le_of_ble_eq_true rfl) ⟨Nat.le_refl _, Nat.le_refl _⟩ ⟨Nat.le_refl _, Nat.le_refl _⟩ (sp_X3_opens hP (K := fun r I' L' P' => bP (kOp (I 17 8)) = r ∧ I = I' ∧ L = L' ∧ P = P') ⟨rfl, rfl, rfl, rfl⟩) (fun v1 I2 L2 P2 nx1 q2 => ?_)
  obtain ⟨rfl, r1, rfl, rfl, rfl, rfl, rfl⟩ := q2
  refine z_istore_n (lv2 := [some (.ref 17), some (.int p1), some (.int (I 17 8)), some (.int (bP (kOp (I 17 8)))), none]) dX5_readUnit_9 (by decide) rfl rfl ?_
  refine z_iload_n dX5_readUnit_10 rfl ?_
  refine z_callS (As := [.int (I 17 8)]) (st := []) dX5_readUnit_11 zl_X5_171 zs_X3_startsUnit rfl rfl (Nat.le_of_ble_eq_true rfl) ⟨Nat.le_refl _, Nat.le_refl _⟩ ⟨Nat.le_refl _, Nat.le_refl _⟩ (sp_X3_startsUnit hP (by omega) (K := fun r I' L' P' => bP (kLf (I 17 8) ∨ kOp (I 17 8)) = r ∧ I = I' ∧ L = L' ∧ P = P') ⟨rfl, rfl, rfl, rfl⟩) (fun v1 I2 L2 P2 nx1 q4 => ?_)
  obtain ⟨rfl, r3, rfl, rfl, rfl, rfl, rfl⟩ := q4
  refine z_if_eq (tgt := 38) dX5_readUnit_14 (by decide) (fun q5 => ?_) (fun q5 => ?_)
  · have hv := hv.1 q5
    refine z_aload_n dX5_readUnit_38 rfl ?_
    refine z_iconst (v := 2) dX5_readUnit_39 (by decide) ?_
    refine z_callV (As := [.int 2]) (st := []) dX5_readUnit_40 zl_X5_73 zv_X5_fail (by decide) rfl zn_17 zo_17 rfl rfl (Nat.le_of_ble_eq_true rfl) ⟨Nat.le_refl _, Nat.le_refl _⟩ ⟨Nat.le_refl _, Nat.le_refl _⟩ hv (fun v1 I6 L7 P8 nx1 q9 => ?_)
    obtain ⟨rfl, rfl, hv⟩ := q9
    exact z_return dX5_readUnit_43 rfl (Nat.le_refl _) (Nat.le_refl _) hv
  · have hv := hv.2 q5
    refine z_aload_n dX5_readUnit_17 rfl ?_
    refine z_getI dX5_readUnit_18 zf_X5_21 zn_17 zo_17 (fun _ _ _ _ _ => rfl) ?_
    refine z_aload_n dX5_readUnit_21 rfl ?_
    refine z_getI dX5_readUnit_22 zf_X5_18 zn_17 zo_17 (fun _ _ _ _ _ => rfl) ?_
    refine z_icmp_ge (tgt := 38) dX5_readUnit_25 (by decide) (fun q11 => ?_) (fun q11 => ?_)
    · have hv := hv.1 q11
      refine z_aload_n dX5_readUnit_38 rfl ?_
      refine z_iconst (v := 2) dX5_readUnit_39 (by decide) ?_
      refine z_callV (As := [.int 2]) (st := []) dX5_readUnit_40 zl_X5_73 zv_X5_fail (by decide) rfl zn_17 zo_17 rfl rfl (Nat.le_of_ble_eq_true rfl) ⟨Nat.le_refl _, Nat.le_refl _⟩ ⟨Nat.le_refl _, Nat.le_refl _⟩ hv (fun v1 I12 L13 P14 nx1 q15 => ?_)
      obtain ⟨rfl, rfl, hv⟩ := q15
      exact z_return dX5_readUnit_43 rfl (Nat.le_refl _) (Nat.le_refl _) hv
    · have hv := hv.2 q11
      refine z_iload_n dX5_readUnit_28 rfl ?_
      refine z_if_eq (tgt := 44) dX5_readUnit_29 (by decide) (fun q17 => ?_) (fun q17 => ?_)
      · have hv := hv.1 q17
        exact hv
      · have hv := hv.2 q17
        refine z_iload_n dX5_readUnit_32 rfl ?_
        refine z_bipush (v := 6) dX5_readUnit_33 (by decide) ?_
        refine z_icmp_le (tgt := 44) dX5_readUnit_35 (by decide) (fun q18 => ?_) (fun q18 => ?_)
        · have hv := hv.1 q18
          exact hv
        · have hv := hv.2 q18
          refine z_aload_n dX5_readUnit_38 rfl ?_
          refine z_iconst (v := 2) dX5_readUnit_39 (by decide) ?_
          refine z_callV (As := [.int 2]) (st := []) dX5_readUnit_40 zl_X5_73 zv_X5_fail (by decide) rfl zn_17 zo_17 rfl rfl (Nat.le_of_ble_eq_true rfl) ⟨Nat.le_refl _, Nat.le_refl _⟩ ⟨Nat.le_refl _, Nat.le_refl _⟩ hv (fun v1 I19 L20 P21 nx1 q22 => ?_)
          obtain ⟨rfl, rfl, hv⟩ := q22
          exact z_return dX5_readUnit_43 rfl (Nat.le_refl _) (Nat.le_refl _) hv
abbrev gw_X5_readPart (d : Nat) (Q : zQt) (pc : Nat) (lv : zV) (st : List Value) (I : zI) (L : zL) (P : zP) : Prop := zW zm_X5_readPart (zRm d 0 0) 0 0 Q pc lv st I L P 205 0 0
abbrev v_X5_readPart_59 (d : Nat) (Q : zQt) (p1 : Int32) (p2 : Int32) (x3 : Int32) (x4 : Int32) (I : zI) (L : zL) (P : zP) : Prop :=
  ((1600 ≤ x4 →
    Q none I L P 205
  ) ∧ (¬ 1600 ≤ x4 →
    (((kRk (I 17 8)) < p1 →
      Q none I L P 205
    ) ∧ (¬ (kRk (I 17 8)) < p1 →
      (((kRk (I 17 8)) ≤ x3 →
        zMv zm_X5_advance d [.ref 17] I L P (fun I42 L43 P44 =>
          zMv zm_X5_readPart d [.ref 17, .int ((kRk (I 17 8)) + 1), .int p2] I42 L43 P44 (fun I47 L48 P49 =>
            ∃ b52 : Nat, P49 17 4 = some b52 ∧
            (b52 < 205 ∧ (zsh b52).1 = 0) ∧
            zMv zm_X0_add d [.ref b52, .int (I 17 8), .int 0] I47 L48 P49 (fun I55 L56 P57 =>
              ((¬ (kRk (I 17 8)) = 2 →
                gw_X5_readPart (d + 1) Q 59 [some (.ref 17), some (.int p1), some (.int p2), some (.int (kRk (I 17 8))), some (.int (x4 + 1)), none, none] [] I55 L56 P57
              ) ∧ ((kRk (I 17 8)) = 2 →
                gw_X5_readPart (d + 1) Q 59 [some (.ref 17), some (.int p1), some (.int p2), some (.int ((kRk (I 17 8)) - 1)), some (.int (x4 + 1)), none, none] [] I55 L56 P57
              ))
            )
          )
        )
      ) ∧ (¬ (kRk (I 17 8)) ≤ x3 →
        Q none I L P 205
      ))
    ))
  ))
set_option maxRecDepth 20000 in
theorem g_X5_readPart_59 {d : Nat} {Q : zQt} {p1 : Int32} {p2 : Int32} {x3 : Int32} {x4 : Int32} {I : zI} {L : zL} {P : zP} (hP : zPk P) (hv : v_X5_readPart_59 d Q p1 p2 x3 x4 I L P) : gw_X5_readPart (d + 1) Q 59 [some (.ref 17), some (.int p1), some (.int p2), some (.int x3), some (.int x4), none, none] [] I L P := by
  unfold v_X5_readPart_59 at hv
  refine z_iload dX5_readPart_59 rfl ?_
  refine z_sipush (v := 1600) dX5_readPart_61 (by decide) ?_
  refine z_icmp_ge (tgt := 140) dX5_readPart_64 (by decide) (fun q37 => ?_) (fun q37 => ?_)
  · have hv := hv.1 q37
    exact z_return dX5_readPart_140 rfl (Nat.le_refl _) (Nat.le_refl _) hv
  · have hv := hv.2 q37
    refine z_aload_n dX5_readPart_67 rfl ?_
    refine z_getI dX5_readPart_68 zf_X5_29 zn_17 zo_17 (fun _ _ _ _ _ => rfl) ?_
    refine z_istore (lv2 := [some (.ref 17), some (.int p1), some (.int p2), some (.int x3), some (.int x4), some (.int (I 17 8)), none]) dX5_readPart_71 (by decide) rfl rfl ?_
    refine z_iload dX5_readPart_73 rfl ?_
    refine z_callS (As := [.int (I 17 8)]) (st := []) dX5_readPart_75 zl_X5_165 zs_X3_rankOf rfl rfl (Nat.le_of_ble_eq_true rfl) ⟨Nat.le_refl _, Nat.le_refl _⟩ ⟨Nat.le_refl _, Nat.le_refl _⟩ (sp_X3_rankOf hP (K := fun r I' L' P' => kRk (I 17 8) = r ∧ I = I' ∧ L = L' ∧ P = P') ⟨rfl, rfl, rfl, rfl⟩) (fun v1 I2 L2 P2 nx1 q39 => ?_)
    obtain ⟨rfl, r38, rfl, rfl, rfl, rfl, rfl⟩ := q39
    refine z_istore (lv2 := [some (.ref 17), some (.int p1), some (.int p2), some (.int x3), some (.int x4), some (.int (I 17 8)), some (.int (kRk (I 17 8)))]) dX5_readPart_78 (by decide) rfl rfl ?_
    refine z_iload dX5_readPart_80 rfl ?_
    refine z_iload_n dX5_readPart_82 rfl ?_
    refine z_icmp_lt (tgt := 140) dX5_readPart_83 (by decide) (fun q40 => ?_) (fun q40 => ?_)
    · have hv := hv.1 q40
      exact z_return dX5_readPart_140 rfl (Nat.le_refl _) (Nat.le_refl _) hv
    · have hv := hv.2 q40
      refine z_iload dX5_readPart_86 rfl ?_
      refine z_iload_n dX5_readPart_88 rfl ?_
      refine z_icmp_le (tgt := 95) dX5_readPart_89 (by decide) (fun q41 => ?_) (fun q41 => ?_)
      · have hv := hv.1 q41
        refine z_aload_n dX5_readPart_95 rfl ?_
        refine z_callV (As := []) (st := []) dX5_readPart_96 zl_X5_101 zv_X5_advance (by decide) rfl zn_17 zo_17 rfl rfl (Nat.le_of_ble_eq_true rfl) ⟨Nat.le_refl _, Nat.le_refl _⟩ ⟨Nat.le_refl _, Nat.le_refl _⟩ hv (fun v1 I42 L43 P44 nx1 q45 => ?_)
        obtain ⟨rfl, rfl, hv⟩ := q45
        refine z_aload_n dX5_readPart_99 rfl ?_
        refine z_iload dX5_readPart_100 rfl ?_
        refine z_iconst (v := 1) dX5_readPart_102 (by decide) ?_
        refine z_iadd dX5_readPart_103 ?_
        refine z_iload_n dX5_readPart_104 rfl ?_
        refine z_callV (As := [.int ((kRk (I 17 8)) + 1), .int p2]) (st := []) dX5_readPart_105 zl_X5_86 zv_X5_readPart (by decide) rfl zn_17 zo_17 rfl rfl (Nat.le_of_ble_eq_true rfl) ⟨Nat.le_refl _, Nat.le_refl _⟩ ⟨Nat.le_refl _, Nat.le_refl _⟩ hv (fun v1 I47 L48 P49 nx1 q50 => ?_)
        obtain ⟨rfl, rfl, hv⟩ := q50
        refine z_aload_n dX5_readPart_108 rfl ?_
        obtain ⟨b52, h53, hv⟩ := hv
        refine z_getP dX5_readPart_109 zf_X5_45 zn_17 zo_17 (fun _ _ _ _ _ => rfl) h53 ?_
        refine z_iload dX5_readPart_112 rfl ?_
        refine z_iconst (v := 0) dX5_readPart_114 (by decide) ?_
        obtain ⟨h54, hv⟩ := hv
        refine z_callV (As := [.int (I 17 8), .int 0]) (st := []) dX5_readPart_115 zl_X5_159 zv_X0_add (by decide) rfl h54.1 h54.2 rfl rfl (Nat.le_of_ble_eq_true rfl) ⟨Nat.le_refl _, Nat.le_refl _⟩ ⟨Nat.le_refl _, Nat.le_refl _⟩ hv (fun v1 I55 L56 P57 nx1 q58 => ?_)
        obtain ⟨rfl, rfl, hv⟩ := q58
        refine z_iload dX5_readPart_118 rfl ?_
        refine z_iconst (v := 2) dX5_readPart_120 (by decide) ?_
        refine z_icmp_ne (tgt := 131) dX5_readPart_121 (by decide) (fun q60 => ?_) (fun q60 => ?_)
        · have hv := hv.1 q60
          refine z_iload dX5_readPart_131 rfl ?_
          refine z_istore_n (lv2 := [some (.ref 17), some (.int p1), some (.int p2), some (.int (kRk (I 17 8))), some (.int x4), some (.int (I 17 8)), some (.int (kRk (I 17 8)))]) dX5_readPart_133 (by decide) rfl rfl ?_
          refine z_iinc (v2 := x4 + 1) (lv2 := [some (.ref 17), some (.int p1), some (.int p2), some (.int (kRk (I 17 8))), some (.int (x4 + 1)), some (.int (I 17 8)), some (.int (kRk (I 17 8)))]) dX5_readPart_134 rfl (by rfl) (by decide) rfl rfl ?_
          refine z_goto (tgt := 59) dX5_readPart_137 (by decide) ?_
          exact z_sub (by exact ⟨rfl, ⟨rfl, ⟨rfl, ⟨rfl, ⟨rfl, trivial⟩⟩⟩⟩⟩) hv
        · have hv := hv.2 q60
          refine z_iload dX5_readPart_124 rfl ?_
          refine z_iconst (v := 1) dX5_readPart_126 (by decide) ?_
          refine z_isub dX5_readPart_127 ?_
          refine z_goto (tgt := 133) dX5_readPart_128 (by decide) ?_
          refine z_istore_n (lv2 := [some (.ref 17), some (.int p1), some (.int p2), some (.int ((kRk (I 17 8)) - 1)), some (.int x4), some (.int (I 17 8)), some (.int (kRk (I 17 8)))]) dX5_readPart_133 (by decide) rfl rfl ?_
          refine z_iinc (v2 := x4 + 1) (lv2 := [some (.ref 17), some (.int p1), some (.int p2), some (.int ((kRk (I 17 8)) - 1)), some (.int (x4 + 1)), some (.int (I 17 8)), some (.int (kRk (I 17 8)))]) dX5_readPart_134 rfl (by rfl) (by decide) rfl rfl ?_
          refine z_goto (tgt := 59) dX5_readPart_137 (by decide) ?_
          exact z_sub (by exact ⟨rfl, ⟨rfl, ⟨rfl, ⟨rfl, ⟨rfl, trivial⟩⟩⟩⟩⟩) hv
      · have hv := hv.2 q41
        refine z_goto (tgt := 140) dX5_readPart_92 (by decide) ?_
        exact z_return dX5_readPart_140 rfl (Nat.le_refl _) (Nat.le_refl _) hv
abbrev v_X5_readPart (d : Nat) (Q : zQt) (p1 : Int32) (p2 : Int32) (I : zI) (L : zL) (P : zP) : Prop :=
  ((¬ (I 17 8) = 267 →
    zMv zm_X5_readUnit d [.ref 17, .int p2] I L P (fun I2 L3 P4 =>
      gw_X5_readPart (d + 1) Q 59 [some (.ref 17), some (.int p1), some (.int p2), some (.int 4), some (.int 0), none, none] [] I2 L3 P4
    )
  ) ∧ ((I 17 8) = 267 →
    ((2 < p1 →
      zMv zm_X5_readUnit d [.ref 17, .int p2] I L P (fun I8 L9 P10 =>
        gw_X5_readPart (d + 1) Q 59 [some (.ref 17), some (.int p1), some (.int p2), some (.int 4), some (.int 0), none, none] [] I8 L9 P10
      )
    ) ∧ (¬ 2 < p1 →
      ((6 < p2 →
        zMv zm_X5_readUnit d [.ref 17, .int p2] I L P (fun I14 L15 P16 =>
          gw_X5_readPart (d + 1) Q 59 [some (.ref 17), some (.int p1), some (.int p2), some (.int 4), some (.int 0), none, none] [] I14 L15 P16
        )
      ) ∧ (¬ 6 < p2 →
        zMv zm_X5_advance d [.ref 17] I L P (fun I19 L20 P21 =>
          zMv zm_X5_readPart d [.ref 17, .int 2, .int (p2 + 1)] I19 L20 P21 (fun I24 L25 P26 =>
            ∃ b29 : Nat, P26 17 4 = some b29 ∧
            (b29 < 205 ∧ (zsh b29).1 = 0) ∧
            zMv zm_X0_add d [.ref b29, .int 267, .int 0] I24 L25 P26 (fun I32 L33 P34 =>
              gw_X5_readPart (d + 1) Q 59 [some (.ref 17), some (.int p1), some (.int p2), some (.int 1), some (.int 0), none, none] [] I32 L33 P34
            )
          )
        )
      ))
    ))
  ))
set_option maxRecDepth 20000 in
theorem g_X5_readPart {d : Nat} {Q : zQt} {p1 : Int32} {p2 : Int32} {I : zI} {L : zL} {P : zP} (hP : zPk P) (hv : v_X5_readPart d Q p1 p2 I L P) : zM zm_X5_readPart (d + 1) 0 0 [.ref 17, .int p1, .int p2] I L P 205 Q := by
  unfold v_X5_readPart at hv
  refine zM_of (lv0 := [some (.ref 17), some (.int p1), some (.int p2), none, none, none, none]) (by decide +kernel) (Nat.le_of_ble_eq_true rfl) rfl ?_
  refine z_iconst (v := 4) dX5_readPart_0 (by decide) ?_
  refine z_istore_n (lv2 := [some (.ref 17), some (.int p1), some (.int p2), some (.int 4), none, none, none]) dX5_readPart_1 (by decide) rfl rfl ?_
  refine z_aload_n dX5_readPart_2 rfl ?_
  refine z_getI dX5_readPart_3 zf_X5_29 zn_17 zo_17 (fun _ _ _ _ _ => rfl) ?_
  refine z_sipush (v := 267) dX5_readPart_6 (by decide) ?_
  refine z_icmp_ne (tgt := 51) dX5_readPart_9 (by decide) (fun q1 => ?_) (fun q1 => ?_)
  · have hv := hv.1 q1
    refine z_aload_n dX5_readPart_51 rfl ?_
    refine z_iload_n dX5_readPart_52 rfl ?_
    refine z_callV (As := [.int p2]) (st := []) dX5_readPart_53 zl_X5_162 zv_X5_readUnit (by decide) rfl zn_17 zo_17 rfl rfl (Nat.le_of_ble_eq_true rfl) ⟨Nat.le_refl _, Nat.le_refl _⟩ ⟨Nat.le_refl _, Nat.le_refl _⟩ hv (fun v1 I2 L3 P4 nx1 q5 => ?_)
    obtain ⟨rfl, rfl, hv⟩ := q5
    refine z_iconst (v := 0) dX5_readPart_56 (by decide) ?_
    refine z_istore (lv2 := [some (.ref 17), some (.int p1), some (.int p2), some (.int 4), some (.int 0), none, none]) dX5_readPart_57 (by decide) rfl rfl ?_
    exact hv
  · have hv := hv.2 q1
    refine z_iload_n dX5_readPart_12 rfl ?_
    refine z_iconst (v := 2) dX5_readPart_13 (by decide) ?_
    refine z_icmp_gt (tgt := 51) dX5_readPart_14 (by decide) (fun q7 => ?_) (fun q7 => ?_)
    · have hv := hv.1 q7
      refine z_aload_n dX5_readPart_51 rfl ?_
      refine z_iload_n dX5_readPart_52 rfl ?_
      refine z_callV (As := [.int p2]) (st := []) dX5_readPart_53 zl_X5_162 zv_X5_readUnit (by decide) rfl zn_17 zo_17 rfl rfl (Nat.le_of_ble_eq_true rfl) ⟨Nat.le_refl _, Nat.le_refl _⟩ ⟨Nat.le_refl _, Nat.le_refl _⟩ hv (fun v1 I8 L9 P10 nx1 q11 => ?_)
      obtain ⟨rfl, rfl, hv⟩ := q11
      refine z_iconst (v := 0) dX5_readPart_56 (by decide) ?_
      refine z_istore (lv2 := [some (.ref 17), some (.int p1), some (.int p2), some (.int 4), some (.int 0), none, none]) dX5_readPart_57 (by decide) rfl rfl ?_
      exact hv
    · have hv := hv.2 q7
      refine z_iload_n dX5_readPart_17 rfl ?_
      refine z_bipush (v := 6) dX5_readPart_18 (by decide) ?_
      refine z_icmp_gt (tgt := 51) dX5_readPart_20 (by decide) (fun q13 => ?_) (fun q13 => ?_)
      · have hv := hv.1 q13
        refine z_aload_n dX5_readPart_51 rfl ?_
        refine z_iload_n dX5_readPart_52 rfl ?_
        refine z_callV (As := [.int p2]) (st := []) dX5_readPart_53 zl_X5_162 zv_X5_readUnit (by decide) rfl zn_17 zo_17 rfl rfl (Nat.le_of_ble_eq_true rfl) ⟨Nat.le_refl _, Nat.le_refl _⟩ ⟨Nat.le_refl _, Nat.le_refl _⟩ hv (fun v1 I14 L15 P16 nx1 q17 => ?_)
        obtain ⟨rfl, rfl, hv⟩ := q17
        refine z_iconst (v := 0) dX5_readPart_56 (by decide) ?_
        refine z_istore (lv2 := [some (.ref 17), some (.int p1), some (.int p2), some (.int 4), some (.int 0), none, none]) dX5_readPart_57 (by decide) rfl rfl ?_
        exact hv
      · have hv := hv.2 q13
        refine z_aload_n dX5_readPart_23 rfl ?_
        refine z_callV (As := []) (st := []) dX5_readPart_24 zl_X5_101 zv_X5_advance (by decide) rfl zn_17 zo_17 rfl rfl (Nat.le_of_ble_eq_true rfl) ⟨Nat.le_refl _, Nat.le_refl _⟩ ⟨Nat.le_refl _, Nat.le_refl _⟩ hv (fun v1 I19 L20 P21 nx1 q22 => ?_)
        obtain ⟨rfl, rfl, hv⟩ := q22
        refine z_aload_n dX5_readPart_27 rfl ?_
        refine z_iconst (v := 2) dX5_readPart_28 (by decide) ?_
        refine z_iload_n dX5_readPart_29 rfl ?_
        refine z_iconst (v := 1) dX5_readPart_30 (by decide) ?_
        refine z_iadd dX5_readPart_31 ?_
        refine z_callV (As := [.int 2, .int (p2 + 1)]) (st := []) dX5_readPart_32 zl_X5_86 zv_X5_readPart (by decide) rfl zn_17 zo_17 rfl rfl (Nat.le_of_ble_eq_true rfl) ⟨Nat.le_refl _, Nat.le_refl _⟩ ⟨Nat.le_refl _, Nat.le_refl _⟩ hv (fun v1 I24 L25 P26 nx1 q27 => ?_)
        obtain ⟨rfl, rfl, hv⟩ := q27
        refine z_aload_n dX5_readPart_35 rfl ?_
        obtain ⟨b29, h30, hv⟩ := hv
        refine z_getP dX5_readPart_36 zf_X5_45 zn_17 zo_17 (fun _ _ _ _ _ => rfl) h30 ?_
        refine z_sipush (v := 267) dX5_readPart_39 (by decide) ?_
        refine z_iconst (v := 0) dX5_readPart_42 (by decide) ?_
        obtain ⟨h31, hv⟩ := hv
        refine z_callV (As := [.int 267, .int 0]) (st := []) dX5_readPart_43 zl_X5_159 zv_X0_add (by decide) rfl h31.1 h31.2 rfl rfl (Nat.le_of_ble_eq_true rfl) ⟨Nat.le_refl _, Nat.le_refl _⟩ ⟨Nat.le_refl _, Nat.le_refl _⟩ hv (fun v1 I32 L33 P34 nx1 q35 => ?_)
        obtain ⟨rfl, rfl, hv⟩ := q35
        refine z_iconst (v := 1) dX5_readPart_46 (by decide) ?_
        refine z_istore_n (lv2 := [some (.ref 17), some (.int p1), some (.int p2), some (.int 1), none, none, none]) dX5_readPart_47 (by decide) rfl rfl ?_
        refine z_goto (tgt := 56) dX5_readPart_48 (by decide) ?_
        refine z_iconst (v := 0) dX5_readPart_56 (by decide) ?_
        refine z_istore (lv2 := [some (.ref 17), some (.int p1), some (.int p2), some (.int 1), some (.int 0), none, none]) dX5_readPart_57 (by decide) rfl rfl ?_
        exact hv
section RB
variable {d : Nat} {I : zI} {L : zL} {P : zP} {k p : Nat}
theorem sp_X5_readUnitB {x : Int32} (hP : zPk P) (h : rB k p I) (hd : 2 ≤ d) {K : zI → zL → zP → Prop} (kk : K I L P) : zMv zm_X5_readUnit d [.ref 17, .int x] I L P K := by
  obtain ⟨d, rfl⟩ : ∃ e, d = e + 1 := ⟨d - 1, by omega⟩
  have e8 := h.2.2.2
  refine g_X5_readUnit hP (by omega) ⟨fun _ => sp_X5_failB hP h (by omega) (qv kk), fun q => absurd (bP_n.mp q) ?_⟩
  rw [e8]
  unfold kLf kOp
  decide
theorem lp_X5_readPartB {Q : zQt} {r w h : Int32} {i : Nat} (hP : zPk P) (hb : rB k p I) (hr : ¬ r < 0) (kk : Q none I L P 205) : gw_X5_readPart (d + 1) Q 59 [some (.ref 17), some (.int r), some (.int w), some (.int h), some (.int (nI i)), none, none] [] I L P := by
  have e8 := hb.2.2.2
  refine g_X5_readPart_59 hP ⟨fun _ => kk, fun _ => ⟨fun _ => kk, fun q => absurd ?_ q⟩⟩
  rw [e8]
  have : kRk 277 = -1 := by decide
  rw [this]
  rw [Int32.lt_iff_toInt_lt] at hr ⊢
  have h1 : (-1 : Int32).toInt = -1 := by decide
  have h0 : (0 : Int32).toInt = 0 := by decide
  omega
theorem sp_X5_readPartB {r : Nat} {w : Int32} (hP : zPk P) (h : rB k p I) (hr : r < 8) (hd : 3 ≤ d) {K : zI → zL → zP → Prop} (kk : K I L P) : zMv zm_X5_readPart d [.ref 17, .int (nI r), .int w] I L P K := by
  obtain ⟨d, rfl⟩ : ∃ e, d = e + 1 := ⟨d - 1, by omega⟩
  exact g_X5_readPart hP ⟨fun _ => sp_X5_readUnitB hP h (by omega) (lp_X5_readPartB (i := 0) hP h (nI_pos (by omega)) (qv kk)), fun q => absurd q (rB_w (w := 267) h (by decide))⟩
end RB
