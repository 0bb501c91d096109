/-! ===== the model: formulas worked out ===== -/
theorem nIe {a b : Nat} (h : a = b) : nI a = nI b := by rw [h]
def eLf (c : Int32) : Prop := c = 110 ∨ c = 109 ∨ c = 104 ∨ c = 103
/-- one step of a formula on the rows (h of them) -/
noncomputable def eSt (np N : Nat) (po : Nat → Prop) (lk : Nat → Nat → Nat → Prop) (g c n : Int32) (h : Nat) (R : Nat → Nat → Int32) : Nat → Nat → Int32 :=
  if c = 110 ∨ c = 109 ∨ c = 104 ∨ c = 103 then va_up R h (sLf c n g)
  else if c = 126 then va_up R (h - 1) (fun w => if R (h - 1) w = 0 then 1 else 0)
  else if c = 107 then va_up R (h - 1) (fun w => bP (po w ∧ sKn N po (lk n.toNatClampNeg) (R (h - 1)) w))
  else if c = 97 then va_up R (h - 1) (fun w => bP (po w ∧ sAl np N po lk (R (h - 1)) w))
  else if c = 99 then va_up R (h - 1) (fun w => bP (po w ∧ sCm np N po lk (R (h - 1)) w))
  else va_up R (h - 2) (fun w => sTwo c (R (h - 2) w) (R (h - 1) w))
def eHt (c : Int32) (h : Nat) : Nat := if c = 110 ∨ c = 109 ∨ c = 104 ∨ c = 103 then h + 1 else if c = 126 ∨ c = 107 ∨ c = 97 ∨ c = 99 then h else h - 1
/-- a step finds what it needs -/
def eNd (np : Nat) (c n : Int32) (h : Nat) : Prop := if c = 110 ∨ c = 109 ∨ c = 104 ∨ c = 103 then h < 44 else if c = 107 then 1 ≤ h ∧ ∃ p, p < np ∧ n = nI p else if c = 126 ∨ c = 97 ∨ c = 99 then 1 ≤ h else 2 ≤ h
def eOk (np : Nat) : List (Int32 × Int32) → Nat → Prop
  | [], _ => True
  | q :: t, h => eNd np q.1 q.2 h ∧ eOk np t (eHt q.1 h)
noncomputable def eRun (np N : Nat) (po : Nat → Prop) (lk : Nat → Nat → Nat → Prop) (g : Int32) : List (Int32 × Int32) → Nat → (Nat → Nat → Int32) → Nat → Nat → Int32
  | [], _, R => R
  | q :: t, h, R => eRun np N po lk g t (eHt q.1 h) (eSt np N po lk g q.1 q.2 h R)
def eHs : List (Int32 × Int32) → Nat → Nat
  | [], h => h
  | q :: t, h => eHs t (eHt q.1 h)
/-- the code between two places -/
def vCd (I : zI) (fr : Nat) : Nat → List (Int32 × Int32)
  | 0 => []
  | n + 1 => (I 175 fr, I 176 fr) :: vCd I (fr + 1) n
theorem vCd_c {I I' : zI} (h1 : I' 175 = I 175) (h2 : I' 176 = I 176) : ∀ n fr, vCd I' fr n = vCd I fr n
  | 0, _ => rfl
  | n + 1, fr => by unfold vCd; rw [h1, h2, vCd_c h1 h2 n (fr + 1)]
theorem sAl_c {np N : Nat} {po : Nat → Prop} {lk : Nat → Nat → Nat → Prop} {r r' : Nat → Int32} {w : Nat} (h : ∀ v, v < N → po v → (r v = 0 ↔ r' v = 0)) : sAl np N po lk r w ↔ sAl np N po lk r' w := by
  unfold sAl
  exact forall_congr' (fun p => forall_congr' (fun _ => sKn_c (fun _ _ => Iff.rfl) (fun _ _ _ => Iff.rfl) h))
theorem sCm_c {np N : Nat} {po : Nat → Prop} {lk : Nat → Nat → Nat → Prop} {r r' : Nat → Int32} {w : Nat} (h : ∀ v, v < N → po v → (r v = 0 ↔ r' v = 0)) : sCm np N po lk r w ↔ sCm np N po lk r' w := by
  unfold sCm
  exact ⟨fun q v hv pv hc hz => q v hv pv hc ((h v hv pv).mpr hz), fun q v hv pv hc hz => q v hv pv hc ((h v hv pv).mp hz)⟩
/-- the pile holds the rows -/
def ePl (I : zI) (N h : Nat) (R : Nat → Nat → Int32) : Prop := ∀ j w, j < h → w < N → I 183 (256 * j + w) = R j w
theorem MP_fr {cs sl : List Nat} {I0 I : zI} (h : zFr cs sl I0 I) (h1 : 28 ∉ sl) (h2 : 163 ∉ cs) (h3 : 168 ∉ cs) (h4 : 38 ∉ sl) (h5 : 182 ∉ cs) (h6 : 181 ∉ cs) (h7 : 180 ∉ cs) (h8 : 186 ∉ cs) (h9 : 46 ∉ sl) (hp : MP I0) : MP I := by
  rcases hp with hp | hp
  · exact Or.inl (by rw [h.2 46 h9]; exact hp)
  · exact Or.inr (vPt_fr h h1 h2 h3 h4 h5 h6 h7 h8 hp)
/-- what is possible is told by 0 and 1 -/
def MO (I : zI) : Prop := ∀ w, w < vN I → I 180 w = 0 ∨ I 180 w = 1
theorem MO_fr {cs sl : List Nat} {I0 I : zI} (h : zFr cs sl I0 I) (h1 : 28 ∉ sl) (h2 : 163 ∉ cs) (h7 : 180 ∉ cs) (hm : MO I0) : MO I := by
  unfold MO
  rw [vN_fr h h1 h2, h.1 180 h7 (by decide)]
  exact hm
abbrev gw_X12_work (d : Nat) (Q : zQt) (pc : Nat) (lv : zV) (st : List Value) (I : zI) (L : zL) (P : zP) : Prop := zW zm_X12_work (zRm d 0 0) 0 0 Q pc lv st I L P 205 0 0
abbrev v_X12_work_278 (d : Nat) (Q : zQt) (p2 : Int32) (x3 : Int32) (x4 : Int32) (I : zI) (L : zL) (P : zP) : Prop :=
  gw_X12_work (d + 1) Q 5 [some (.ref 160), none, some (.int p2), some (.int x3), some (.int (x4 + 1)), none, none, none] [] I L P
set_option maxRecDepth 20000 in
theorem g_X12_work_278 {d : Nat} {Q : zQt} {p2 : Int32} {x3 : Int32} {x4 : Int32} {I : zI} {L : zL} {P : zP} (hP : zPk P) (hd : 1 ≤ d) (hv : v_X12_work_278 d Q p2 x3 x4 I L P) : gw_X12_work (d + 1) Q 278 [some (.ref 160), none, some (.int p2), some (.int x3), some (.int x4), none, none, none] [] I L P := by
  unfold v_X12_work_278 at hv
  refine z_iinc (v2 := x4 + 1) (lv2 := [some (.ref 160), none, some (.int p2), some (.int x3), some (.int (x4 + 1)), none, none, none]) dX12_work_278 rfl (by rfl) (by decide) rfl rfl ?_
  refine z_goto (tgt := 5) dX12_work_281 (by decide) ?_
  exact hv
abbrev v_X12_work_223 (d : Nat) (Q : zQt) (p2 : Int32) (x3 : Int32) (x4 : Int32) (x5 : Int32) (x7 : Int32) (I : zI) (L : zL) (P : zP) : Prop :=
  MB I ∧
  (((nI (vN I)) ≤ x7 →
    gw_X12_work (d + 1) Q 278 [some (.ref 160), none, some (.int p2), some (.int x3), some (.int x4), none, none, none] [] I L P
  ) ∧ (¬ (nI (vN I)) ≤ x7 →
    vp_in ((x3 - 256) + x7) 12288 ∧
    vp_in (x3 + x7) 12288 ∧
    zMi zm_X12_two d [.int x5, .int (I 183 ((x3 - 256) + x7).toNatClampNeg), .int (I 183 (x3 + x7).toNatClampNeg)] I L P (fun r49 I45 L46 P47 =>
      ∀ I51 : zI, I51 = zuI I45 183 ((x3 - 256) + x7).toNatClampNeg r49 →
      gw_X12_work (d + 1) Q 223 [some (.ref 160), none, some (.int p2), some (.int x3), some (.int x4), some (.int x5), none, some (.int (x7 + 1))] [] I51 L46 P47
    )
  ))
set_option maxRecDepth 20000 in
theorem g_X12_work_223 {d : Nat} {Q : zQt} {p2 : Int32} {x3 : Int32} {x4 : Int32} {x5 : Int32} {x7 : Int32} {I : zI} {L : zL} {P : zP} (hP : zPk P) (hd : 1 ≤ d) (hv : v_X12_work_223 d Q p2 x3 x4 x5 x7 I L P) : gw_X12_work (d + 1) Q 223 [some (.ref 160), none, some (.int p2), some (.int x3), some (.int x4), some (.int x5), none, some (.int x7)] [] I L P := by
  unfold v_X12_work_223 at hv
  refine z_iload dX12_work_223 rfl ?_
  refine z_aload_n dX12_work_225 rfl ?_
  obtain ⟨h39, hv⟩ := hv
  refine z_callV (As := []) (st := [.int x7]) dX12_work_226 zl_X12_346 zv_X12_worldMany (by decide) rfl zn_160 zo_160 rfl rfl (Nat.le_of_ble_eq_true rfl) ⟨Nat.le_refl _, Nat.le_refl _⟩ ⟨Nat.le_refl _, Nat.le_refl _⟩ (sp_X12_worldMany hP h39 (by omega) (K := fun r I' L' P' => nI (vN I) = r ∧ I = I' ∧ L = L' ∧ P = P') ⟨rfl, rfl, rfl, rfl⟩) (fun v1 I2 L2 P2 nx1 q41 => ?_)
  obtain ⟨rfl, r40, rfl, rfl, rfl, rfl, rfl⟩ := q41
  refine z_icmp_ge (tgt := 278) dX12_work_229 (by decide) (fun q42 => ?_) (fun q42 => ?_)
  · have hv := hv.1 q42
    exact z_sub (by exact ⟨rfl, ⟨rfl, ⟨rfl, ⟨rfl, trivial⟩⟩⟩⟩) hv
  · have hv := hv.2 q42
    refine z_aload_n dX12_work_232 rfl ?_
    refine z_getP dX12_work_233 zf_X12_83 zn_160 zo_160 (fun _ _ _ _ _ => rfl) (hP 160 41 183 zp_160_41) ?_
    refine z_iload_n dX12_work_236 rfl ?_
    refine z_sipush (v := 256) dX12_work_237 (by decide) ?_
    refine z_isub dX12_work_240 ?_
    refine z_iload dX12_work_241 rfl ?_
    refine z_iadd dX12_work_243 ?_
    refine z_iload dX12_work_244 rfl ?_
    refine z_aload_n dX12_work_246 rfl ?_
    refine z_getP dX12_work_247 zf_X12_83 zn_160 zo_160 (fun _ _ _ _ _ => rfl) (hP 160 41 183 zp_160_41) ?_
    refine z_iload_n dX12_work_250 rfl ?_
    refine z_sipush (v := 256) dX12_work_251 (by decide) ?_
    refine z_isub dX12_work_254 ?_
    refine z_iload dX12_work_255 rfl ?_
    refine z_iadd dX12_work_257 ?_
    obtain ⟨h43, hv⟩ := hv
    refine z_iaload dX12_work_258 zn_183 zh_183 h43 ?_
    refine z_aload_n dX12_work_259 rfl ?_
    refine z_getP dX12_work_260 zf_X12_83 zn_160 zo_160 (fun _ _ _ _ _ => rfl) (hP 160 41 183 zp_160_41) ?_
    refine z_iload_n dX12_work_263 rfl ?_
    refine z_iload dX12_work_264 rfl ?_
    refine z_iadd dX12_work_266 ?_
    obtain ⟨h44, hv⟩ := hv
    refine z_iaload dX12_work_267 zn_183 zh_183 h44 ?_
    refine z_callS (As := [.int x5, .int (I 183 ((x3 - 256) + x7).toNatClampNeg), .int (I 183 (x3 + x7).toNatClampNeg)]) (st := [.int ((x3 - 256) + x7), .ref 183]) dX12_work_268 zl_X12_400 zs_X12_two rfl rfl (Nat.le_of_ble_eq_true rfl) ⟨Nat.le_refl _, Nat.le_refl _⟩ ⟨Nat.le_refl _, Nat.le_refl _⟩ hv (fun v1 I45 L46 P47 nx1 q48 => ?_)
    obtain ⟨rfl, r49, rfl, hv⟩ := q48
    refine z_iastore dX12_work_271 zn_183 zh_183 h43 (z_nmI (fun I51 e50 => ?_))
    have hv := hv I51 e50
    refine z_iinc (v2 := x7 + 1) (lv2 := [some (.ref 160), none, some (.int p2), some (.int x3), some (.int x4), some (.int x5), none, some (.int (x7 + 1))]) dX12_work_272 rfl (by rfl) (by decide) rfl rfl ?_
    refine z_goto (tgt := 223) dX12_work_275 (by decide) ?_
    exact hv
abbrev v_X12_work_116 (d : Nat) (Q : zQt) (p2 : Int32) (x3 : Int32) (x4 : Int32) (x6 : Int32) (x7 : Int32) (I : zI) (L : zL) (P : zP) : Prop :=
  MB I ∧
  (((nI (vN I)) ≤ x7 →
    gw_X12_work (d + 1) Q 278 [some (.ref 160), none, some (.int p2), some (.int x3), some (.int x4), none, none, none] [] I L P
  ) ∧ (¬ (nI (vN I)) ≤ x7 →
    vp_in (x6 + x7) 12288 ∧
    ((¬ (I 183 (x6 + x7).toNatClampNeg) = 0 →
      ∀ I59 : zI, I59 = zuI I 183 (x6 + x7).toNatClampNeg 0 →
      gw_X12_work (d + 1) Q 116 [some (.ref 160), none, some (.int p2), some (.int x3), some (.int x4), none, some (.int x6), some (.int (x7 + 1))] [] I59 L P
    ) ∧ ((I 183 (x6 + x7).toNatClampNeg) = 0 →
      ∀ I61 : zI, I61 = zuI I 183 (x6 + x7).toNatClampNeg 1 →
      gw_X12_work (d + 1) Q 116 [some (.ref 160), none, some (.int p2), some (.int x3), some (.int x4), none, some (.int x6), some (.int (x7 + 1))] [] I61 L P
    ))
  ))
set_option maxRecDepth 20000 in
theorem g_X12_work_116 {d : Nat} {Q : zQt} {p2 : Int32} {x3 : Int32} {x4 : Int32} {x6 : Int32} {x7 : Int32} {I : zI} {L : zL} {P : zP} (hP : zPk P) (hd : 1 ≤ d) (hv : v_X12_work_116 d Q p2 x3 x4 x6 x7 I L P) : gw_X12_work (d + 1) Q 116 [some (.ref 160), none, some (.int p2), some (.int x3), some (.int x4), none, some (.int x6), some (.int x7)] [] I L P := by
  unfold v_X12_work_116 at hv
  refine z_iload dX12_work_116 rfl ?_
  refine z_aload_n dX12_work_118 rfl ?_
  obtain ⟨h52, hv⟩ := hv
  refine z_callV (As := []) (st := [.int x7]) dX12_work_119 zl_X12_346 zv_X12_worldMany (by decide) rfl zn_160 zo_160 rfl rfl (Nat.le_of_ble_eq_true rfl) ⟨Nat.le_refl _, Nat.le_refl _⟩ ⟨Nat.le_refl _, Nat.le_refl _⟩ (sp_X12_worldMany hP h52 (by omega) (K := fun r I' L' P' => nI (vN I) = r ∧ I = I' ∧ L = L' ∧ P = P') ⟨rfl, rfl, rfl, rfl⟩) (fun v1 I2 L2 P2 nx1 q54 => ?_)
  obtain ⟨rfl, r53, rfl, rfl, rfl, rfl, rfl⟩ := q54
  refine z_icmp_ge (tgt := 159) dX12_work_122 (by decide) (fun q55 => ?_) (fun q55 => ?_)
  · have hv := hv.1 q55
    refine z_goto (tgt := 278) dX12_work_159 (by decide) ?_
    exact z_sub (by exact ⟨rfl, ⟨rfl, ⟨rfl, ⟨rfl, trivial⟩⟩⟩⟩) hv
  · have hv := hv.2 q55
    refine z_aload_n dX12_work_125 rfl ?_
    refine z_getP dX12_work_126 zf_X12_83 zn_160 zo_160 (fun _ _ _ _ _ => rfl) (hP 160 41 183 zp_160_41) ?_
    refine z_iload dX12_work_129 rfl ?_
    refine z_iload dX12_work_131 rfl ?_
    refine z_iadd dX12_work_133 ?_
    refine z_aload_n dX12_work_134 rfl ?_
    refine z_getP dX12_work_135 zf_X12_83 zn_160 zo_160 (fun _ _ _ _ _ => rfl) (hP 160 41 183 zp_160_41) ?_
    refine z_iload dX12_work_138 rfl ?_
    refine z_iload dX12_work_140 rfl ?_
    refine z_iadd dX12_work_142 ?_
    obtain ⟨h56, hv⟩ := hv
    refine z_iaload dX12_work_143 zn_183 zh_183 h56 ?_
    refine z_if_ne (tgt := 151) dX12_work_144 (by decide) (fun q57 => ?_) (fun q57 => ?_)
    · have hv := hv.1 q57
      refine z_iconst (v := 0) dX12_work_151 (by decide) ?_
      refine z_iastore dX12_work_152 zn_183 zh_183 h56 (z_nmI (fun I59 e58 => ?_))
      have hv := hv I59 e58
      refine z_iinc (v2 := x7 + 1) (lv2 := [some (.ref 160), none, some (.int p2), some (.int x3), some (.int x4), none, some (.int x6), some (.int (x7 + 1))]) dX12_work_153 rfl (by rfl) (by decide) rfl rfl ?_
      refine z_goto (tgt := 116) dX12_work_156 (by decide) ?_
      exact hv
    · have hv := hv.2 q57
      refine z_iconst (v := 1) dX12_work_147 (by decide) ?_
      refine z_goto (tgt := 152) dX12_work_148 (by decide) ?_
      refine z_iastore dX12_work_152 zn_183 zh_183 h56 (z_nmI (fun I61 e60 => ?_))
      have hv := hv I61 e60
      refine z_iinc (v2 := x7 + 1) (lv2 := [some (.ref 160), none, some (.int p2), some (.int x3), some (.int x4), none, some (.int x6), some (.int (x7 + 1))]) dX12_work_153 rfl (by rfl) (by decide) rfl rfl ?_
      refine z_goto (tgt := 116) dX12_work_156 (by decide) ?_
      exact hv
abbrev v_X12_work_58 (d : Nat) (Q : zQt) (p2 : Int32) (x3 : Int32) (x4 : Int32) (x5 : Int32) (x7 : Int32) (I : zI) (L : zL) (P : zP) : Prop :=
  MB I ∧
  (((nI (vN I)) ≤ x7 →
    gw_X12_work (d + 1) Q 278 [some (.ref 160), none, some (.int p2), some (.int (x3 + 256)), some (.int x4), none, none, none] [] I L P
  ) ∧ (¬ (nI (vN I)) ≤ x7 →
    vp_in x4 2100 ∧
    zMi zm_X12_plain d [.ref 160, .int x5, .int (I 176 x4.toNatClampNeg), .int x7] I L P (fun r35 I31 L32 P33 =>
      vp_in (x3 + x7) 12288 ∧
      ∀ I38 : zI, I38 = zuI I31 183 (x3 + x7).toNatClampNeg r35 →
      gw_X12_work (d + 1) Q 58 [some (.ref 160), none, some (.int p2), some (.int x3), some (.int x4), some (.int x5), none, some (.int (x7 + 1))] [] I38 L32 P33
    )
  ))
set_option maxRecDepth 20000 in
theorem g_X12_work_58 {d : Nat} {Q : zQt} {p2 : Int32} {x3 : Int32} {x4 : Int32} {x5 : Int32} {x7 : Int32} {I : zI} {L : zL} {P : zP} (hP : zPk P) (hd : 1 ≤ d) (hv : v_X12_work_58 d Q p2 x3 x4 x5 x7 I L P) : gw_X12_work (d + 1) Q 58 [some (.ref 160), none, some (.int p2), some (.int x3), some (.int x4), some (.int x5), none, some (.int x7)] [] I L P := by
  unfold v_X12_work_58 at hv
  refine z_iload dX12_work_58 rfl ?_
  refine z_aload_n dX12_work_60 rfl ?_
  obtain ⟨h26, hv⟩ := hv
  refine z_callV (As := []) (st := [.int x7]) dX12_work_61 zl_X12_346 zv_X12_worldMany (by decide) rfl zn_160 zo_160 rfl rfl (Nat.le_of_ble_eq_true rfl) ⟨Nat.le_refl _, Nat.le_refl _⟩ ⟨Nat.le_refl _, Nat.le_refl _⟩ (sp_X12_worldMany hP h26 (by omega) (K := fun r I' L' P' => nI (vN I) = r ∧ I = I' ∧ L = L' ∧ P = P') ⟨rfl, rfl, rfl, rfl⟩) (fun v1 I2 L2 P2 nx1 q28 => ?_)
  obtain ⟨rfl, r27, rfl, rfl, rfl, rfl, rfl⟩ := q28
  refine z_icmp_ge (tgt := 97) dX12_work_64 (by decide) (fun q29 => ?_) (fun q29 => ?_)
  · have hv := hv.1 q29
    refine z_iincW (v2 := x3 + 256) (lv2 := [some (.ref 160), none, some (.int p2), some (.int (x3 + 256)), some (.int x4), some (.int x5), none, some (.int x7)]) dX12_work_97 rfl (by rfl) (by decide) rfl rfl ?_
    refine z_goto (tgt := 278) dX12_work_103 (by decide) ?_
    exact z_sub (by exact ⟨rfl, ⟨rfl, ⟨rfl, ⟨rfl, trivial⟩⟩⟩⟩) hv
  · have hv := hv.2 q29
    refine z_aload_n dX12_work_67 rfl ?_
    refine z_getP dX12_work_68 zf_X12_83 zn_160 zo_160 (fun _ _ _ _ _ => rfl) (hP 160 41 183 zp_160_41) ?_
    refine z_iload_n dX12_work_71 rfl ?_
    refine z_iload dX12_work_72 rfl ?_
    refine z_iadd dX12_work_74 ?_
    refine z_aload_n dX12_work_75 rfl ?_
    refine z_iload dX12_work_76 rfl ?_
    refine z_aload_n dX12_work_78 rfl ?_
    refine z_getP dX12_work_79 zf_X12_62 zn_160 zo_160 (fun _ _ _ _ _ => rfl) (hP 160 24 176 zp_160_24) ?_
    refine z_iload dX12_work_82 rfl ?_
    obtain ⟨h30, hv⟩ := hv
    refine z_iaload dX12_work_84 zn_176 zh_176 h30 ?_
    refine z_iload dX12_work_85 rfl ?_
    refine z_callV (As := [.int x5, .int (I 176 x4.toNatClampNeg), .int x7]) (st := [.int (x3 + x7), .ref 183]) dX12_work_87 zl_X12_387 zv_X12_plain (by decide) rfl zn_160 zo_160 rfl rfl (Nat.le_of_ble_eq_true rfl) ⟨Nat.le_refl _, Nat.le_refl _⟩ ⟨Nat.le_refl _, Nat.le_refl _⟩ hv (fun v1 I31 L32 P33 nx1 q34 => ?_)
    obtain ⟨rfl, r35, rfl, hv⟩ := q34
    obtain ⟨h36, hv⟩ := hv
    refine z_iastore dX12_work_90 zn_183 zh_183 h36 (z_nmI (fun I38 e37 => ?_))
    have hv := hv I38 e37
    refine z_iinc (v2 := x7 + 1) (lv2 := [some (.ref 160), none, some (.int p2), some (.int x3), some (.int x4), some (.int x5), none, some (.int (x7 + 1))]) dX12_work_91 rfl (by rfl) (by decide) rfl rfl ?_
    refine z_goto (tgt := 58) dX12_work_94 (by decide) ?_
    exact hv
abbrev v_X12_work_5 (d : Nat) (Q : zQt) (p2 : Int32) (x3 : Int32) (x4 : Int32) (I : zI) (L : zL) (P : zP) : Prop :=
  ((p2 ≤ x4 →
    Q none I L P 205
  ) ∧ (¬ p2 ≤ x4 →
    vp_in x4 2100 ∧
    (((I 175 x4.toNatClampNeg) = 110 →
      gw_X12_work (d + 1) Q 58 [some (.ref 160), none, some (.int p2), some (.int x3), some (.int x4), some (.int (I 175 x4.toNatClampNeg)), none, some (.int 0)] [] I L P
    ) ∧ (¬ (I 175 x4.toNatClampNeg) = 110 →
      (((I 175 x4.toNatClampNeg) = 109 →
        gw_X12_work (d + 1) Q 58 [some (.ref 160), none, some (.int p2), some (.int x3), some (.int x4), some (.int (I 175 x4.toNatClampNeg)), none, some (.int 0)] [] I L P
      ) ∧ (¬ (I 175 x4.toNatClampNeg) = 109 →
        (((I 175 x4.toNatClampNeg) = 104 →
          gw_X12_work (d + 1) Q 58 [some (.ref 160), none, some (.int p2), some (.int x3), some (.int x4), some (.int (I 175 x4.toNatClampNeg)), none, some (.int 0)] [] I L P
        ) ∧ (¬ (I 175 x4.toNatClampNeg) = 104 →
          ((¬ (I 175 x4.toNatClampNeg) = 103 →
            ((¬ (I 175 x4.toNatClampNeg) = 126 →
              ((¬ (I 175 x4.toNatClampNeg) = 107 →
                ((¬ (I 175 x4.toNatClampNeg) = 97 →
                  ((¬ (I 175 x4.toNatClampNeg) = 99 →
                    gw_X12_work (d + 1) Q 223 [some (.ref 160), none, some (.int p2), some (.int (x3 - 256)), some (.int x4), some (.int (I 175 x4.toNatClampNeg)), none, some (.int 0)] [] I L P
                  ) ∧ ((I 175 x4.toNatClampNeg) = 99 →
                    zMv zm_X12_commonOf d [.ref 160, .int (x3 - 256)] I L P (fun I11 L12 P13 =>
                      gw_X12_work (d + 1) Q 278 [some (.ref 160), none, some (.int p2), some (.int x3), some (.int x4), none, none, none] [] I11 L12 P13
                    )
                  ))
                ) ∧ ((I 175 x4.toNatClampNeg) = 97 →
                  zMv zm_X12_allKnow d [.ref 160, .int (x3 - 256)] I L P (fun I16 L17 P18 =>
                    gw_X12_work (d + 1) Q 278 [some (.ref 160), none, some (.int p2), some (.int x3), some (.int x4), none, none, none] [] I16 L17 P18
                  )
                ))
              ) ∧ ((I 175 x4.toNatClampNeg) = 107 →
                zMv zm_X12_knowsOf d [.ref 160, .int (I 176 x4.toNatClampNeg), .int (x3 - 256)] I L P (fun I21 L22 P23 =>
                  gw_X12_work (d + 1) Q 278 [some (.ref 160), none, some (.int p2), some (.int x3), some (.int x4), none, none, none] [] I21 L22 P23
                )
              ))
            ) ∧ ((I 175 x4.toNatClampNeg) = 126 →
              gw_X12_work (d + 1) Q 116 [some (.ref 160), none, some (.int p2), some (.int x3), some (.int x4), none, some (.int (x3 - 256)), some (.int 0)] [] I L P
            ))
          ) ∧ ((I 175 x4.toNatClampNeg) = 103 →
            gw_X12_work (d + 1) Q 58 [some (.ref 160), none, some (.int p2), some (.int x3), some (.int x4), some (.int (I 175 x4.toNatClampNeg)), none, some (.int 0)] [] I L P
          ))
        ))
      ))
    ))
  ))
set_option maxRecDepth 20000 in
theorem g_X12_work_5 {d : Nat} {Q : zQt} {p2 : Int32} {x3 : Int32} {x4 : Int32} {I : zI} {L : zL} {P : zP} (hP : zPk P) (hd : 1 ≤ d) (hv : v_X12_work_5 d Q p2 x3 x4 I L P) : gw_X12_work (d + 1) Q 5 [some (.ref 160), none, some (.int p2), some (.int x3), some (.int x4), none, none, none] [] I L P := by
  unfold v_X12_work_5 at hv
  refine z_iload dX12_work_5 rfl ?_
  refine z_iload_n dX12_work_7 rfl ?_
  refine z_icmp_ge (tgt := 284) dX12_work_8 (by decide) (fun q1 => ?_) (fun q1 => ?_)
  · have hv := hv.1 q1
    exact z_return dX12_work_284 rfl (Nat.le_refl _) (Nat.le_refl _) hv
  · have hv := hv.2 q1
    refine z_aload_n dX12_work_11 rfl ?_
    refine z_getP dX12_work_12 zf_X12_59 zn_160 zo_160 (fun _ _ _ _ _ => rfl) (hP 160 23 175 zp_160_23) ?_
    refine z_iload dX12_work_15 rfl ?_
    obtain ⟨h2, hv⟩ := hv
    refine z_iaload dX12_work_17 zn_175 zh_175 h2 ?_
    refine z_istore (lv2 := [some (.ref 160), none, some (.int p2), some (.int x3), some (.int x4), some (.int (I 175 x4.toNatClampNeg)), none, none]) dX12_work_18 (by decide) rfl rfl ?_
    refine z_iload_n dX12_work_20 rfl ?_
    refine z_sipush (v := 256) dX12_work_21 (by decide) ?_
    refine z_isub dX12_work_24 ?_
    refine z_istore (lv2 := [some (.ref 160), none, some (.int p2), some (.int x3), some (.int x4), some (.int (I 175 x4.toNatClampNeg)), some (.int (x3 - 256)), none]) dX12_work_25 (by decide) rfl rfl ?_
    refine z_iload dX12_work_27 rfl ?_
    refine z_bipush (v := 110) dX12_work_29 (by decide) ?_
    refine z_icmp_eq (tgt := 55) dX12_work_31 (by decide) (fun q3 => ?_) (fun q3 => ?_)
    · have hv := hv.1 q3
      refine z_iconst (v := 0) dX12_work_55 (by decide) ?_
      refine z_istore (lv2 := [some (.ref 160), none, some (.int p2), some (.int x3), some (.int x4), some (.int (I 175 x4.toNatClampNeg)), some (.int (x3 - 256)), some (.int 0)]) dX12_work_56 (by decide) rfl rfl ?_
      exact z_sub (by exact ⟨rfl, ⟨rfl, ⟨rfl, ⟨rfl, ⟨rfl, ⟨rfl, trivial⟩⟩⟩⟩⟩⟩) hv
    · have hv := hv.2 q3
      refine z_iload dX12_work_34 rfl ?_
      refine z_bipush (v := 109) dX12_work_36 (by decide) ?_
      refine z_icmp_eq (tgt := 55) dX12_work_38 (by decide) (fun q4 => ?_) (fun q4 => ?_)
      · have hv := hv.1 q4
        refine z_iconst (v := 0) dX12_work_55 (by decide) ?_
        refine z_istore (lv2 := [some (.ref 160), none, some (.int p2), some (.int x3), some (.int x4), some (.int (I 175 x4.toNatClampNeg)), some (.int (x3 - 256)), some (.int 0)]) dX12_work_56 (by decide) rfl rfl ?_
        exact z_sub (by exact ⟨rfl, ⟨rfl, ⟨rfl, ⟨rfl, ⟨rfl, ⟨rfl, trivial⟩⟩⟩⟩⟩⟩) hv
      · have hv := hv.2 q4
        refine z_iload dX12_work_41 rfl ?_
        refine z_bipush (v := 104) dX12_work_43 (by decide) ?_
        refine z_icmp_eq (tgt := 55) dX12_work_45 (by decide) (fun q5 => ?_) (fun q5 => ?_)
        · have hv := hv.1 q5
          refine z_iconst (v := 0) dX12_work_55 (by decide) ?_
          refine z_istore (lv2 := [some (.ref 160), none, some (.int p2), some (.int x3), some (.int x4), some (.int (I 175 x4.toNatClampNeg)), some (.int (x3 - 256)), some (.int 0)]) dX12_work_56 (by decide) rfl rfl ?_
          exact z_sub (by exact ⟨rfl, ⟨rfl, ⟨rfl, ⟨rfl, ⟨rfl, ⟨rfl, trivial⟩⟩⟩⟩⟩⟩) hv
        · have hv := hv.2 q5
          refine z_iload dX12_work_48 rfl ?_
          refine z_bipush (v := 103) dX12_work_50 (by decide) ?_
          refine z_icmp_ne (tgt := 106) dX12_work_52 (by decide) (fun q6 => ?_) (fun q6 => ?_)
          · have hv := hv.1 q6
            refine z_iload dX12_work_106 rfl ?_
            refine z_bipush (v := 126) dX12_work_108 (by decide) ?_
            refine z_icmp_ne (tgt := 162) dX12_work_110 (by decide) (fun q7 => ?_) (fun q7 => ?_)
            · have hv := hv.1 q7
              refine z_iload dX12_work_162 rfl ?_
              refine z_bipush (v := 107) dX12_work_164 (by decide) ?_
              refine z_icmp_ne (tgt := 185) dX12_work_166 (by decide) (fun q8 => ?_) (fun q8 => ?_)
              · have hv := hv.1 q8
                refine z_iload dX12_work_185 rfl ?_
                refine z_bipush (v := 97) dX12_work_187 (by decide) ?_
                refine z_icmp_ne (tgt := 201) dX12_work_189 (by decide) (fun q9 => ?_) (fun q9 => ?_)
                · have hv := hv.1 q9
                  refine z_iload dX12_work_201 rfl ?_
                  refine z_bipush (v := 99) dX12_work_203 (by decide) ?_
                  refine z_icmp_ne (tgt := 217) dX12_work_205 (by decide) (fun q10 => ?_) (fun q10 => ?_)
                  · have hv := hv.1 q10
                    refine z_iload dX12_work_217 rfl ?_
                    refine z_istore_n (lv2 := [some (.ref 160), none, some (.int p2), some (.int (x3 - 256)), some (.int x4), some (.int (I 175 x4.toNatClampNeg)), some (.int (x3 - 256)), none]) dX12_work_219 (by decide) rfl rfl ?_
                    refine z_iconst (v := 0) dX12_work_220 (by decide) ?_
                    refine z_istore (lv2 := [some (.ref 160), none, some (.int p2), some (.int (x3 - 256)), some (.int x4), some (.int (I 175 x4.toNatClampNeg)), some (.int (x3 - 256)), some (.int 0)]) dX12_work_221 (by decide) rfl rfl ?_
                    exact z_sub (by exact ⟨rfl, ⟨rfl, ⟨rfl, ⟨rfl, ⟨rfl, ⟨rfl, trivial⟩⟩⟩⟩⟩⟩) hv
                  · have hv := hv.2 q10
                    refine z_aload_n dX12_work_208 rfl ?_
                    refine z_iload dX12_work_209 rfl ?_
                    refine z_callV (As := [.int (x3 - 256)]) (st := []) dX12_work_211 zl_X12_397 zv_X12_commonOf (by decide) rfl zn_160 zo_160 rfl rfl (Nat.le_of_ble_eq_true rfl) ⟨Nat.le_refl _, Nat.le_refl _⟩ ⟨Nat.le_refl _, Nat.le_refl _⟩ hv (fun v1 I11 L12 P13 nx1 q14 => ?_)
                    obtain ⟨rfl, rfl, hv⟩ := q14
                    refine z_goto (tgt := 278) dX12_work_214 (by decide) ?_
                    exact z_sub (by exact ⟨rfl, ⟨rfl, ⟨rfl, ⟨rfl, trivial⟩⟩⟩⟩) hv
                · have hv := hv.2 q9
                  refine z_aload_n dX12_work_192 rfl ?_
                  refine z_iload dX12_work_193 rfl ?_
                  refine z_callV (As := [.int (x3 - 256)]) (st := []) dX12_work_195 zl_X12_394 zv_X12_allKnow (by decide) rfl zn_160 zo_160 rfl rfl (Nat.le_of_ble_eq_true rfl) ⟨Nat.le_refl _, Nat.le_refl _⟩ ⟨Nat.le_refl _, Nat.le_refl _⟩ hv (fun v1 I16 L17 P18 nx1 q19 => ?_)
                  obtain ⟨rfl, rfl, hv⟩ := q19
                  refine z_goto (tgt := 278) dX12_work_198 (by decide) ?_
                  exact z_sub (by exact ⟨rfl, ⟨rfl, ⟨rfl, ⟨rfl, trivial⟩⟩⟩⟩) hv
              · have hv := hv.2 q8
                refine z_aload_n dX12_work_169 rfl ?_
                refine z_aload_n dX12_work_170 rfl ?_
                refine z_getP dX12_work_171 zf_X12_62 zn_160 zo_160 (fun _ _ _ _ _ => rfl) (hP 160 24 176 zp_160_24) ?_
                refine z_iload dX12_work_174 rfl ?_
                refine z_iaload dX12_work_176 zn_176 zh_176 h2 ?_
                refine z_iload dX12_work_177 rfl ?_
                refine z_callV (As := [.int (I 176 x4.toNatClampNeg), .int (x3 - 256)]) (st := []) dX12_work_179 zl_X12_391 zv_X12_knowsOf (by decide) rfl zn_160 zo_160 rfl rfl (Nat.le_of_ble_eq_true rfl) ⟨Nat.le_refl _, Nat.le_refl _⟩ ⟨Nat.le_refl _, Nat.le_refl _⟩ hv (fun v1 I21 L22 P23 nx1 q24 => ?_)
                obtain ⟨rfl, rfl, hv⟩ := q24
                refine z_goto (tgt := 278) dX12_work_182 (by decide) ?_
                exact z_sub (by exact ⟨rfl, ⟨rfl, ⟨rfl, ⟨rfl, trivial⟩⟩⟩⟩) hv
            · have hv := hv.2 q7
              refine z_iconst (v := 0) dX12_work_113 (by decide) ?_
              refine z_istore (lv2 := [some (.ref 160), none, some (.int p2), some (.int x3), some (.int x4), some (.int (I 175 x4.toNatClampNeg)), some (.int (x3 - 256)), some (.int 0)]) dX12_work_114 (by decide) rfl rfl ?_
              exact z_sub (by exact ⟨rfl, ⟨rfl, ⟨rfl, ⟨rfl, ⟨rfl, ⟨rfl, trivial⟩⟩⟩⟩⟩⟩) hv
          · have hv := hv.2 q6
            refine z_iconst (v := 0) dX12_work_55 (by decide) ?_
            refine z_istore (lv2 := [some (.ref 160), none, some (.int p2), some (.int x3), some (.int x4), some (.int (I 175 x4.toNatClampNeg)), some (.int (x3 - 256)), some (.int 0)]) dX12_work_56 (by decide) rfl rfl ?_
            exact z_sub (by exact ⟨rfl, ⟨rfl, ⟨rfl, ⟨rfl, ⟨rfl, ⟨rfl, trivial⟩⟩⟩⟩⟩⟩) hv
abbrev v_X12_work (d : Nat) (Q : zQt) (p1 : Int32) (p2 : Int32) (I : zI) (L : zL) (P : zP) : Prop :=
  gw_X12_work (d + 1) Q 5 [some (.ref 160), none, some (.int p2), some (.int 0), some (.int p1), none, none, none] [] I L P
set_option maxRecDepth 20000 in
theorem g_X12_work {d : Nat} {Q : zQt} {p1 : Int32} {p2 : Int32} {I : zI} {L : zL} {P : zP} (hP : zPk P) (hd : 1 ≤ d) (hv : v_X12_work d Q p1 p2 I L P) : zM zm_X12_work (d + 1) 0 0 [.ref 160, .int p1, .int p2] I L P 205 Q := by
  unfold v_X12_work at hv
  refine zM_of (lv0 := [some (.ref 160), some (.int p1), some (.int p2), none, none, none, none, none]) (by decide +kernel) (Nat.le_of_ble_eq_true rfl) rfl ?_
  refine z_iconst (v := 0) dX12_work_0 (by decide) ?_
  refine z_istore_n (lv2 := [some (.ref 160), some (.int p1), some (.int p2), some (.int 0), none, none, none, none]) dX12_work_1 (by decide) rfl rfl ?_
  refine z_iload_n dX12_work_2 rfl ?_
  refine z_istore (lv2 := [some (.ref 160), some (.int p1), some (.int p2), some (.int 0), some (.int p1), none, none, none]) dX12_work_3 (by decide) rfl rfl ?_
  exact z_sub (by exact ⟨rfl, ⟨rfl, ⟨rfl, ⟨rfl, trivial⟩⟩⟩⟩) hv
abbrev eC : List Nat := [183, 184, 185, 186, 187]
section WRK
variable {d : Nat} {Q : zQt} {I0 : zI} {L : zL} {P : zP} {to : Nat}
theorem lp_X12_work_58 (hP : zPk P) (hE : ME I0) (hd : 1 ≤ d) {k h : Nat} {c n : Int32} (hk : k < 2100) (hh : h < 44) (hn : I0 176 k = n)
    (kk : ∀ I, zFr [183] [] I0 I → (∀ j, ¬ (256 * h ≤ j ∧ j < 256 * h + vN I0) → I 183 j = I0 183 j) → (∀ w, w < vN I0 → I 183 (256 * h + w) = sLf c n (I0 160 40) w) → gw_X12_work (d + 1) Q 278 [some (.ref 160), none, some (.int (nI to)), some (.int (nI (256 * (h + 1)))), some (.int (nI k)), none, none, none] [] I L P) :
    ∀ m i I, i + m = vN I0 → zFr [183] [] I0 I → (∀ j, ¬ (256 * h ≤ j ∧ j < 256 * h + i) → I 183 j = I0 183 j) → (∀ w, w < i → I 183 (256 * h + w) = sLf c n (I0 160 40) w) →
      gw_X12_work (d + 1) Q 58 [some (.ref 160), none, some (.int (nI to)), some (.int (nI (256 * h))), some (.int (nI k)), some (.int c), none, some (.int (nI i))] [] I L P := by
  have hN := vN_le hE.1
  intro m
  induction m with
  | zero =>
    intro i I hi hf h1 h2
    have hi2 : i = vN I0 := by omega
    subst hi2
    have eN := vN_fr hf (by decide) (by decide)
    refine g_X12_work_58 hP (by omega) ⟨(ME_fr hf (by decide) (by decide) (by decide) (by decide) (by decide) hE).1, fun _ => ?_, fun q => absurd (by rw [eN]; exact nI_le (Nat.le_refl _) (by omega)) q⟩
    have e : nI (256 * h) + 256 = nI (256 * (h + 1)) := by rw [show (256 : Int32) = nI 256 from rfl, nI_add]; exact nIe (by omega)
    rw [e]
    exact kk I hf h1 h2
  | succ m ih =>
    intro i I hi hf h1 h2
    have eN := vN_fr hf (by decide) (by decide)
    have er : nI (256 * h) + nI i = nI (256 * h + i) := nI_add _ _
    refine g_X12_work_58 hP (by omega) ⟨(ME_fr hf (by decide) (by decide) (by decide) (by decide) (by decide) hE).1, fun q => absurd q (by rw [eN]; exact nI_ge (by omega) (by omega)), fun _ => ⟨nx_in (by omega) (by decide), sp_X12_plain hP (by omega) (by omega) ⟨by rw [er]; exact nx_in (by omega) (by decide), fun I1 e1 => ?_⟩⟩⟩
    rw [er, nI_cl (by omega), nI_cl (by omega), hf.2 40 (by decide), hf.1 176 (by decide) (by decide), hn] at e1
    subst e1
    rw [nI_1]
    refine ih (i + 1) _ (by omega) (zFr_c hf (by decide) (by decide)) (fun j hj => ?_) (fun w hw => ?_)
    · rw [zuI_o (by omega)]
      exact h1 j (by omega)
    · rcases Nat.lt_succ_iff_lt_or_eq.mp hw with q | q
      · rw [zuI_o (by omega)]; exact h2 w q
      · subst q; exact zuI_v _ _ _ _
theorem lp_X12_work_116 (hP : zPk P) (hE : ME I0) (hd : 1 ≤ d) {k h : Nat} (hk : k < 2100) (hh : h < 44) {x3 : Int32}
    (kk : ∀ I, zFr [183] [] I0 I → (∀ j, ¬ (256 * h ≤ j ∧ j < 256 * h + vN I0) → I 183 j = I0 183 j) → (∀ w, w < vN I0 → I 183 (256 * h + w) = (if I0 183 (256 * h + w) = 0 then 1 else 0)) → gw_X12_work (d + 1) Q 278 [some (.ref 160), none, some (.int (nI to)), some (.int x3), some (.int (nI k)), none, none, none] [] I L P) :
    ∀ m i I, i + m = vN I0 → zFr [183] [] I0 I → (∀ j, ¬ (256 * h ≤ j ∧ j < 256 * h + i) → I 183 j = I0 183 j) → (∀ w, w < i → I 183 (256 * h + w) = (if I0 183 (256 * h + w) = 0 then 1 else 0)) →
      gw_X12_work (d + 1) Q 116 [some (.ref 160), none, some (.int (nI to)), some (.int x3), some (.int (nI k)), none, some (.int (nI (256 * h))), some (.int (nI i))] [] I L P := by
  have hN := vN_le hE.1
  intro m
  induction m with
  | zero =>
    intro i I hi hf h1 h2
    have hi2 : i = vN I0 := by omega
    subst hi2
    have eN := vN_fr hf (by decide) (by decide)
    exact g_X12_work_116 hP (by omega) ⟨(ME_fr hf (by decide) (by decide) (by decide) (by decide) (by decide) hE).1, fun _ => kk I hf h1 h2, fun q => absurd (by rw [eN]; exact nI_le (Nat.le_refl _) (by omega)) q⟩
  | succ m ih =>
    intro i I hi hf h1 h2
    have eN := vN_fr hf (by decide) (by decide)
    have er : nI (256 * h) + nI i = nI (256 * h + i) := nI_add _ _
    have cur : I 183 (256 * h + i) = I0 183 (256 * h + i) := h1 _ (by omega)
    have step : ∀ v : Int32, v = (if I0 183 (256 * h + i) = 0 then 1 else 0) → ∀ I1, I1 = zuI I 183 (nI (256 * h) + nI i).toNatClampNeg v → gw_X12_work (d + 1) Q 116 [some (.ref 160), none, some (.int (nI to)), some (.int x3), some (.int (nI k)), none, some (.int (nI (256 * h))), some (.int (nI i + 1))] [] I1 L P := by
      intro v hv I1 e1
      rw [er, nI_cl (by omega)] at e1
      subst e1
      rw [nI_1]
      refine ih (i + 1) _ (by omega) (zFr_c hf (by decide) (by decide)) (fun j hj => ?_) (fun w hw => ?_)
      · rw [zuI_o (by omega)]
        exact h1 j (by omega)
      · rcases Nat.lt_succ_iff_lt_or_eq.mp hw with q | q
        · rw [zuI_o (by omega)]; exact h2 w q
        · subst q; rw [zuI_v]; exact hv
    refine g_X12_work_116 hP (by omega) ⟨(ME_fr hf (by decide) (by decide) (by decide) (by decide) (by decide) hE).1, fun q => absurd q (by rw [eN]; exact nI_ge (by omega) (by omega)), fun _ => ⟨by rw [er]; exact nx_in (by omega) (by decide), fun q => step 0 ?_, fun q => step 1 ?_⟩⟩
    · rw [er, nI_cl (by omega), cur] at q
      rw [if_neg q]
    · rw [er, nI_cl (by omega), cur] at q
      rw [if_pos q]
theorem lp_X12_work_223 (hP : zPk P) (hE : ME I0) (hd : 1 ≤ d) {k h : Nat} {c : Int32} (hk : k < 2100) (hh : h < 44)
    (kk : ∀ I, zFr [183] [] I0 I → (∀ j, ¬ (256 * h ≤ j ∧ j < 256 * h + vN I0) → I 183 j = I0 183 j) → (∀ w, w < vN I0 → I 183 (256 * h + w) = sTwo c (I0 183 (256 * h + w)) (I0 183 (256 * (h + 1) + w))) → gw_X12_work (d + 1) Q 278 [some (.ref 160), none, some (.int (nI to)), some (.int (nI (256 * (h + 1)))), some (.int (nI k)), none, none, none] [] I L P) :
    ∀ m i I, i + m = vN I0 → zFr [183] [] I0 I → (∀ j, ¬ (256 * h ≤ j ∧ j < 256 * h + i) → I 183 j = I0 183 j) → (∀ w, w < i → I 183 (256 * h + w) = sTwo c (I0 183 (256 * h + w)) (I0 183 (256 * (h + 1) + w))) →
      gw_X12_work (d + 1) Q 223 [some (.ref 160), none, some (.int (nI to)), some (.int (nI (256 * (h + 1)))), some (.int (nI k)), some (.int c), none, some (.int (nI i))] [] I L P := by
  have hN := vN_le hE.1
  intro m
  induction m with
  | zero =>
    intro i I hi hf h1 h2
    have hi2 : i = vN I0 := by omega
    subst hi2
    have eN := vN_fr hf (by decide) (by decide)
    exact g_X12_work_223 hP (by omega) ⟨(ME_fr hf (by decide) (by decide) (by decide) (by decide) (by decide) hE).1, fun _ => kk I hf h1 h2, fun q => absurd (by rw [eN]; exact nI_le (Nat.le_refl _) (by omega)) q⟩
  | succ m ih =>
    intro i I hi hf h1 h2
    have eN := vN_fr hf (by decide) (by decide)
    have er : nI (256 * (h + 1)) - 256 + nI i = nI (256 * h + i) := by rw [show (256 : Int32) = nI 256 from rfl, pk_sub (by omega), nI_add]; exact nIe (by omega)
    have er2 : nI (256 * (h + 1)) + nI i = nI (256 * (h + 1) + i) := nI_add _ _
    have cur : I 183 (256 * h + i) = I0 183 (256 * h + i) := h1 _ (by omega)
    have cur2 : I 183 (256 * (h + 1) + i) = I0 183 (256 * (h + 1) + i) := h1 _ (by omega)
    refine g_X12_work_223 hP (by omega) ⟨(ME_fr hf (by decide) (by decide) (by decide) (by decide) (by decide) hE).1, fun q => absurd q (by rw [eN]; exact nI_ge (by omega) (by omega)), fun _ => ⟨by rw [er]; exact nx_in (by omega) (by decide), by rw [er2]; exact nx_in (by omega) (by decide), ?_⟩⟩
    rw [er, er2, nI_cl (by omega), nI_cl (by omega), cur, cur2]
    refine sp_X12_two hP (fun I1 e1 => ?_)
    subst e1
    rw [nI_1]
    refine ih (i + 1) _ (by omega) (zFr_c hf (by decide) (by decide)) (fun j hj => ?_) (fun w hw => ?_)
    · rw [zuI_o (by omega)]
      exact h1 j (by omega)
    · rcases Nat.lt_succ_iff_lt_or_eq.mp hw with q | q
      · rw [zuI_o (by omega)]; exact h2 w q
      · subst q; exact zuI_v _ _ _ _
/-- all that a formula's working out keeps -/
def eF (I0 I : zI) : Prop := zFr eC [46] I0 I
theorem lp_X12_work_5 (hP : zPk P) (hE0 : ME I0) (hO0 : MO I0) (hd : 6 ≤ d) (hto : to < 2 ^ 31)
    {Rn : Nat → Nat → Int32} {hn : Nat} (kk : ∀ I, eF I0 I → MP I → (∀ j w, j < hn → w < vN I0 → I 183 (256 * j + w) = Rn j w) → Q none I L P 205) :
    ∀ m k h R I, k + m = to → (m ≠ 0 → to ≤ 2100) → eF I0 I → MP I → h ≤ 44 → ePl I (vN I0) h R → eOk (vNp I0) (vCd I0 k m) h → eHs (vCd I0 k m) h = hn → eRun (vNp I0) (vN I0) (vPoss I0) (vLike I0) (I0 160 40) (vCd I0 k m) h R = Rn →
      gw_X12_work (d + 1) Q 5 [some (.ref 160), none, some (.int (nI to)), some (.int (nI (256 * h))), some (.int (nI k)), none, none, none] [] I L P := by
  have hN := vN_le hE0.1
  intro m
  induction m with
  | zero =>
    intro k h R I hk _ hF hM hh hpl hok hhs hrun
    have hhs : h = hn := hhs
    subst hhs
    have : k = to := by omega
    subst this
    refine g_X12_work_5 hP (by omega) ⟨fun _ => kk I hF hM (fun j w hj hw => by rw [hpl j w hj hw, ← hrun]; rfl), fun q => absurd (nI_le (Nat.le_refl _) hto) q⟩
  | succ m ih =>
    intro k h R I hk hto2 hF hM hh hpl hok hhs hrun
    have hhs : eHs (vCd I0 (k + 1) m) (eHt (I0 175 k) h) = hn := hhs
    have ht2 := hto2 (by omega)
    have hE := ME_fr hF (by decide) (by decide) (by decide) (by decide) (by decide) hE0
    have eN := vN_fr hF (by decide) (by decide)
    have eP := vNp_fr hF (by decide) (by decide)
    have eO := vPoss_fr hF (show 180 ∉ eC by decide)
    have eL := vLike_fr' hF (by decide) (by decide) (by decide) (by decide) (by decide) (by decide)
    have e175 : I 175 = I0 175 := hF.1 175 (by decide) (by decide)
    have e176 : I 176 = I0 176 := hF.1 176 (by decide) (by decide)
    have e40 : I 160 40 = I0 160 40 := hF.2 40 (by decide)
    obtain ⟨hnd, hok2⟩ := hok
    have hrun2 : eRun (vNp I0) (vN I0) (vPoss I0) (vLike I0) (I0 160 40) (vCd I0 (k + 1) m) (eHt (I0 175 k) h) (eSt (vNp I0) (vN I0) (vPoss I0) (vLike I0) (I0 160 40) (I0 175 k) (I0 176 k) h R) = Rn := hrun
    have hnd : eNd (vNp I0) (I0 175 k) (I0 176 k) h := hnd
    have hok2 : eOk (vNp I0) (vCd I0 (k + 1) m) (eHt (I0 175 k) h) := hok2
    have ck : (nI k).toNatClampNeg = k := nI_cl (by omega)
    -- one step more: any state that holds the next rows
    have next : ∀ I1 h1 R1, h1 = eHt (I0 175 k) h → R1 = eSt (vNp I0) (vN I0) (vPoss I0) (vLike I0) (I0 160 40) (I0 175 k) (I0 176 k) h R → h1 ≤ 44 → eF I0 I1 → MP I1 → ePl I1 (vN I0) h1 R1 →
        gw_X12_work (d + 1) Q 278 [some (.ref 160), none, some (.int (nI to)), some (.int (nI (256 * h1))), some (.int (nI k)), none, none, none] [] I1 L P := by
      intro I1 h1 R1 e1 e2 e3 hF1 hM1 hp1
      subst e1
      subst e2
      refine g_X12_work_278 hP (by omega) ?_
      unfold v_X12_work_278
      rw [nI_1]
      exact ih (k + 1) _ _ I1 (by omega) (fun _ => ht2) hF1 hM1 e3 hp1 hok2 hhs hrun2
    have leaf : (I0 175 k = 110 ∨ I0 175 k = 109 ∨ I0 175 k = 104 ∨ I0 175 k = 103) → gw_X12_work (d + 1) Q 58 [some (.ref 160), none, some (.int (nI to)), some (.int (nI (256 * h))), some (.int (nI k)), some (.int (I0 175 k)), none, some (.int 0)] [] I L P := by
      intro hc
      unfold eNd at hnd
      rw [if_pos hc] at hnd
      refine lp_X12_work_58 hP hE (by omega) (by omega) hnd (n := I0 176 k) (by rw [e176]) (fun I1 f1 f2 f3 => ?_) (vN I) 0 I (by omega) (zFr_rf _ _ _) (fun _ _ => rfl) (fun w hw => absurd hw (Nat.not_lt_zero w))
      refine next I1 (h + 1) _ (by unfold eHt; rw [if_pos hc]) rfl (by omega) (zFr_tr hF (zFr_wk f1 (by decide) (by decide))) (MP_fr f1 (by decide) (by decide) (by decide) (by decide) (by decide) (by decide) (by decide) (by decide) (by decide) hM) (fun j w hj hw => ?_)
      unfold eSt
      rw [if_pos hc]
      by_cases hjh : j = h
      · subst hjh
        rw [va_up_self, f3 w (by omega), e40]
      · rw [va_up_ne _ _ hjh, f2 _ (by omega)]
        exact hpl j w (by omega) hw
    have top : 1 ≤ h → (nI (256 * h) - 256 : Int32) = nI (256 * (h - 1)) := by
      intro h1
      rw [show (256 : Int32) = nI 256 from rfl, pk_sub (by omega)]
      exact nIe (by omega)
    -- a row in place of the top one
    have keep : ∀ (I1 : zI) (r : Nat → Int32) (cs : List Nat), 1 ≤ h → (∀ j, ¬ (256 * (h - 1) ≤ j ∧ j < 256 * (h - 1) + vN I) → I1 183 j = I 183 j) → (∀ w, w < vN I0 → I1 183 (256 * (h - 1) + w) = r w) → ePl I1 (vN I0) h (va_up R (h - 1) r) := by
      intro I1 r cs h1 f2 f3 j w hj hw
      by_cases hjh : j = h - 1
      · subst hjh
        rw [va_up_self, f3 w hw]
      · rw [va_up_ne _ _ hjh, f2 _ (by omega)]
        exact hpl j w (by omega) hw
    refine g_X12_work_5 hP (by omega) ⟨fun q => absurd q (nI_ge (by omega) (by omega)), fun _ => ⟨nx_in (by omega) (by decide), fun q => ?_, fun q1 => ⟨fun q => ?_, fun q2 => ⟨fun q => ?_, fun q3 => ⟨fun q4 => ⟨fun q5 => ⟨fun q6 => ⟨fun q7 => ⟨fun q8 => ?_, fun q => ?_⟩, fun q => ?_⟩, fun q => ?_⟩, fun q => ?_⟩, fun q => ?_⟩⟩⟩⟩⟩
    · rw [ck, e175] at q ⊢; exact leaf (Or.inl q)
    · rw [ck, e175] at q ⊢; exact leaf (Or.inr (Or.inl q))
    · rw [ck, e175] at q ⊢; exact leaf (Or.inr (Or.inr (Or.inl q)))
    · rw [ck, e175] at q1 q2 q3 q4 q5 q6 q7 q8 ⊢
      have nl : ¬ (I0 175 k = 110 ∨ I0 175 k = 109 ∨ I0 175 k = 104 ∨ I0 175 k = 103) := by rintro (z | z | z | z) <;> first | exact q1 z | exact q2 z | exact q3 z | exact q4 z
      unfold eNd at hnd
      rw [if_neg nl, if_neg q6, if_neg (by rintro (z | z | z) <;> first | exact q5 z | exact q7 z | exact q8 z)] at hnd
      have e2 : (256 * h) = 256 * ((h - 2) + 1) + 256 := by omega
      have tp : (nI (256 * h) - 256 : Int32) = nI (256 * ((h - 2) + 1)) := by
        rw [top (by omega)]; exact nIe (by omega)
      rw [tp]
      refine lp_X12_work_223 hP hE (by omega) (by omega) (by omega) (fun I1 f1 f2 f3 => ?_) (vN I) 0 I (by omega) (zFr_rf _ _ _) (fun _ _ => rfl) (fun w hw => absurd hw (Nat.not_lt_zero w))
      refine next I1 (h - 2 + 1) _ (by unfold eHt; rw [if_neg nl, if_neg (by rintro (z | z | z | z) <;> first | exact q5 z | exact q6 z | exact q7 z | exact q8 z)]; omega) rfl (by omega) (zFr_tr hF (zFr_wk f1 (by decide) (by decide))) (MP_fr f1 (by decide) (by decide) (by decide) (by decide) (by decide) (by decide) (by decide) (by decide) (by decide) hM) (fun j w hj hw => ?_)
      unfold eSt
      rw [if_neg nl, if_neg q5, if_neg q6, if_neg q7, if_neg q8]
      by_cases hjh : j = h - 2
      · subst hjh
        rw [va_up_self, f3 w (by omega), hpl (h - 2) w (by omega) hw, hpl (h - 2 + 1) w (by omega) hw]
        rw [show h - 2 + 1 = h - 1 by omega]
      · rw [va_up_ne _ _ hjh, f2 _ (by omega)]
        exact hpl j w (by omega) hw
    · rw [ck, e175] at q1 q2 q3 q4 q5 q6 q7 q
      have nl : ¬ (I0 175 k = 110 ∨ I0 175 k = 109 ∨ I0 175 k = 104 ∨ I0 175 k = 103) := by rintro (z | z | z | z) <;> first | exact q1 z | exact q2 z | exact q3 z | exact q4 z
      unfold eNd at hnd
      rw [if_neg nl, if_neg q6, if_pos (Or.inr (Or.inr q))] at hnd
      rw [top hnd]
      refine sp_X12_commonOf hP hE hM (by omega) (by omega) (fun I1 f1 f2 f3 f4 => ?_)
      refine next I1 h _ (by unfold eHt; rw [if_neg nl, if_pos (Or.inr (Or.inr (Or.inr q)))]) rfl hh (zFr_tr hF (zFr_wk f1 (by decide) (by decide))) f2 ?_
      unfold eSt
      rw [if_neg nl, if_neg q5, if_neg q6, if_neg q7, if_pos q]
      refine keep I1 _ [] hnd f3 (fun w hw => ?_)
      rw [f4 w (by omega), eN, eP, eO, eL]
      refine bP_c (and_congr_right (fun _ => sCm_c (fun v hv _ => ?_)))
      unfold vRow
      rw [hpl (h - 1) v (by omega) hv]
    · rw [ck, e175] at q1 q2 q3 q4 q5 q6 q
      have nl : ¬ (I0 175 k = 110 ∨ I0 175 k = 109 ∨ I0 175 k = 104 ∨ I0 175 k = 103) := by rintro (z | z | z | z) <;> first | exact q1 z | exact q2 z | exact q3 z | exact q4 z
      unfold eNd at hnd
      rw [if_neg nl, if_neg q6, if_pos (Or.inr (Or.inl q))] at hnd
      rw [top hnd]
      have hO := MO_fr hF (by decide) (by decide) (by decide) hO0
      refine sp_X12_allKnow hP hE hO (by omega) (by omega) (fun I1 f1 f3 f4 => ?_)
      refine next I1 h _ (by unfold eHt; rw [if_neg nl, if_pos (Or.inr (Or.inr (Or.inl q)))]) rfl hh (zFr_tr hF (zFr_wk f1 (by decide) (by decide))) (MP_fr f1 (by decide) (by decide) (by decide) (by decide) (by decide) (by decide) (by decide) (by decide) (by decide) hM) ?_
      unfold eSt
      rw [if_neg nl, if_neg q5, if_neg q6, if_pos q]
      refine keep I1 _ [] hnd f3 (fun w hw => ?_)
      rw [f4 w (by omega), eN, eP, eO, eL]
      refine bP_c (and_congr_right (fun _ => sAl_c (fun v hv _ => ?_)))
      unfold vRow
      rw [hpl (h - 1) v (by omega) hv]
    · rw [ck, e175] at q1 q2 q3 q4 q5 q
      have nl : ¬ (I0 175 k = 110 ∨ I0 175 k = 109 ∨ I0 175 k = 104 ∨ I0 175 k = 103) := by rintro (z | z | z | z) <;> first | exact q1 z | exact q2 z | exact q3 z | exact q4 z
      unfold eNd at hnd
      rw [if_neg nl, if_pos q] at hnd
      obtain ⟨hnd, p, hp, hpe⟩ := hnd
      have hnp := hE0.1.2.1
      rw [top hnd, ck, e176, hpe]
      refine sp_X12_knowsOf hP hE (by omega) (by omega) (by omega) (fun I1 f1 f3 f4 => ?_)
      refine next I1 h _ (by unfold eHt; rw [if_neg nl, if_pos (Or.inr (Or.inl q))]) rfl hh (zFr_tr hF (zFr_wk f1 (by decide) (by decide))) (MP_fr f1 (by decide) (by decide) (by decide) (by decide) (by decide) (by decide) (by decide) (by decide) (by decide) hM) ?_
      unfold eSt
      rw [if_neg nl, if_neg q5, if_pos q]
      refine keep I1 _ [] hnd f3 (fun w hw => ?_)
      rw [f4 w (by omega), eN, eO, eL, hpe, nI_cl (by omega)]
      refine bP_c (and_congr_right (fun _ => sKn_c (fun _ _ => Iff.rfl) (fun _ _ _ => Iff.rfl) (fun v hv _ => ?_)))
      unfold vRow
      rw [hpl (h - 1) v (by omega) hv]
    · rw [ck, e175] at q1 q2 q3 q4 q
      have nl : ¬ (I0 175 k = 110 ∨ I0 175 k = 109 ∨ I0 175 k = 104 ∨ I0 175 k = 103) := by rintro (z | z | z | z) <;> first | exact q1 z | exact q2 z | exact q3 z | exact q4 z
      have n107 : ¬ I0 175 k = 107 := by rw [q]; decide
      unfold eNd at hnd
      rw [if_neg nl, if_neg n107, if_pos (Or.inl q)] at hnd
      rw [top hnd]
      refine lp_X12_work_116 hP hE (by omega) (by omega) (by omega) (fun I1 f1 f2 f3 => ?_) (vN I) 0 I (by omega) (zFr_rf _ _ _) (fun _ _ => rfl) (fun w hw => absurd hw (Nat.not_lt_zero w))
      refine next I1 h _ (by unfold eHt; rw [if_neg nl, if_pos (Or.inl q)]) rfl hh (zFr_tr hF (zFr_wk f1 (by decide) (by decide))) (MP_fr f1 (by decide) (by decide) (by decide) (by decide) (by decide) (by decide) (by decide) (by decide) (by decide) hM) ?_
      unfold eSt
      rw [if_neg nl, if_pos q]
      refine keep I1 _ [] hnd f2 (fun w hw => ?_)
      rw [f3 w (by omega), hpl (h - 1) w (by omega) hw]
    · rw [ck, e175] at q ⊢; exact leaf (Or.inr (Or.inr (Or.inr q)))
end WRK
/-- the row of a formula -/
noncomputable def eVal (I : zI) (cs : List (Int32 × Int32)) : Nat → Int32 := eRun (vNp I) (vN I) (vPoss I) (vLike I) (I 160 40) cs 0 (fun _ _ => 0) 0
/-- a formula's code: it ends with one row -/
def eGd (np : Nat) (cs : List (Int32 × Int32)) : Prop := eOk np cs 0 ∧ eHs cs 0 = 1
theorem sp_X12_work {d : Nat} {I : zI} {L : zL} {P : zP} {fr n : Nat} (hP : zPk P) (hE : ME I) (hO : MO I) (hM : MP I) (hn : fr + n ≤ 2100) (hg : eGd (vNp I) (vCd I fr n)) (hd : 7 ≤ d) {K : zI → zL → zP → Prop}
    (k : ∀ I', eF I I' → MP I' → (∀ w, w < vN I → I' 183 w = eVal I (vCd I fr n) w) → K I' L P) : zMv zm_X12_work d [.ref 160, .int (nI fr), .int (nI (fr + n))] I L P K := by
  obtain ⟨d, rfl⟩ : ∃ e, d = e + 1 := ⟨d - 1, by omega⟩
  refine g_X12_work hP (by omega) ?_
  have := lp_X12_work_5 (Q := fun v I' L' P' nx' => nx' = 205 ∧ v = none ∧ K I' L' P') (L := L) hP hE hO (show 6 ≤ d by omega) (show fr + n < 2 ^ 31 by omega) (Rn := eRun (vNp I) (vN I) (vPoss I) (vLike I) (I 160 40) (vCd I fr n) 0 (fun _ _ => 0)) (hn := 1) (fun I' a1 a2 a3 => ⟨rfl, rfl, k I' a1 a2 (fun w hw => by have := a3 0 w (by omega) hw; rw [Nat.mul_zero, Nat.zero_add] at this; exact this)⟩) n fr 0 (fun _ _ => 0) I (by omega) (fun _ => hn) (zFr_rf _ _ _) hM (by omega) (fun j w hj => absurd hj (Nat.not_lt_zero j)) hg.1 hg.2 rfl
  exact this
