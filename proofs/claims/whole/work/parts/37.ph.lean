/-! ===== the model: one unit ===== -/
/-- what stays while a formula is read -/
def cX (I0 : zI) (ua lim b R : Nat) : Prop := MR I0 ∧ ua < 3 ∧ I0 160 30 = nI ua ∧ I0 160 31 = nI lim ∧ lim ≤ 60 ∧ b + R ≤ 2100
def nmF (I0 : zI) (L0 : zL) (v : Int64) : Option Nat := nfD (vNm I0 L0) v (vRp I0) 0
/-- what is wanted behind a step -/
def mQ (I0 : zI) (L0 : zL) (T : Nat → Int32) (n b R ua : Nat) (p0 : Int32) (Q : zQt) (P : zP) : mS → Prop
  | .inl q => ∀ x I' L', mJ I0 L0 b R ua I' L' → I' 160 4 = nI q.1 → I' 160 5 = nI q.2 → pSg I' (I' 160 6) → Q (some (.int x)) I' L' P 205
  | .inr (wt, S, w, e, u, c) => ∀ I' L', mN I0 L0 T n b R ua 0 p0 I' L' S w e u c → Q (some (.int (cond wt 1 0))) I' L' P 205
theorem mis_nz (T : Nat → Int32) (n e : Nat) : mis T n e ≠ 0 ∧ mis T n e < 100 := by
  unfold mis
  by_cases q : tK T n e = 276
  · rw [if_pos q]; decide
  · rw [if_neg q]; decide
abbrev gw_X12_unit (d : Nat) (Q : zQt) (pc : Nat) (lv : zV) (st : List Value) (I : zI) (L : zL) (P : zP) : Prop := zW zm_X12_unit (zRm d 0 0) 0 0 Q pc lv st I L P 205 0 0
abbrev v_X12_unit_271 (d : Nat) (Q : zQt) (x3 : Int32) (x5 : Int32) (I : zI) (L : zL) (P : zP) : Prop :=
  zMv zm_X12_pushE d [.ref 160, .int 7, .int x3, .int x5] I L P (fun I80 L81 P82 =>
    ∀ I85 : zI, I85 = zuI I80 160 33 ((I80 160 33) + 1) →
    Q (some (.int 1)) I85 L81 P82 205
  )
set_option maxRecDepth 20000 in
theorem g_X12_unit_271 {d : Nat} {Q : zQt} {x3 : Int32} {x5 : Int32} {I : zI} {L : zL} {P : zP} (hP : zPk P) (hd : 1 ≤ d) (hv : v_X12_unit_271 d Q x3 x5 I L P) : gw_X12_unit (d + 1) Q 271 [some (.ref 160), none, none, some (.int x3), none, some (.int x5)] [] I L P := by
  unfold v_X12_unit_271 at hv
  refine z_aload_n dX12_unit_271 rfl ?_
  refine z_bipush (v := 7) dX12_unit_272 (by decide) ?_
  refine z_iload_n dX12_unit_274 rfl ?_
  refine z_iload dX12_unit_275 rfl ?_
  refine z_callV (As := [.int 7, .int x3, .int x5]) (st := []) dX12_unit_277 zl_X12_317 zv_X12_pushE (by decide) rfl zn_160 zo_160 rfl rfl (Nat.le_of_ble_eq_true rfl) ⟨Nat.le_refl _, Nat.le_refl _⟩ ⟨Nat.le_refl _, Nat.le_refl _⟩ hv (fun v1 I80 L81 P82 nx1 q83 => ?_)
  obtain ⟨rfl, rfl, hv⟩ := q83
  refine z_aload_n dX12_unit_280 rfl ?_
  refine z_dup dX12_unit_281 rfl ?_
  refine z_getI dX12_unit_282 zf_X12_314 zn_160 zo_160 (fun _ _ _ _ _ => rfl) ?_
  refine z_iconst (v := 1) dX12_unit_285 (by decide) ?_
  refine z_iadd dX12_unit_286 ?_
  refine z_putI dX12_unit_287 zf_X12_314 zn_160 zo_160 (Or.inl rfl) (fun _ _ _ _ _ => rfl) rfl rfl (z_nmI (fun I85 e86 => ?_))
  have hv := hv I85 e86
  refine z_iconst (v := 1) dX12_unit_290 (by decide) ?_
  exact z_ireturn dX12_unit_291 rfl (by decide) (Nat.le_refl _) (Nat.le_refl _) hv
abbrev v_X12_unit_241 (d : Nat) (Q : zQt) (x3 : Int32) (x4 : Int32) (x5 : Int32) (I : zI) (L : zL) (P : zP) : Prop :=
  ((¬ x4 = 0 →
    ((x3 = 40 →
      gw_X12_unit (d + 1) Q 271 [some (.ref 160), none, none, some (.int x3), none, some (.int x5)] [] I L P
    ) ∧ (¬ x3 = 40 →
      (I 160 8 = 5 → pSg I (I 160 6)) ∧
      zMv zm_X12_must d [.ref 160, .int (bP (I 160 8 = 5 ∧ sSg I (I 160 6) = 40))] I L P (fun I70 L71 P72 =>
        gw_X12_unit (d + 1) Q 271 [some (.ref 160), none, none, some (.int x3), none, some (.int x5)] [] I70 L71 P72
      )
    ))
  ) ∧ (x4 = 0 →
    zMv zm_X12_emit d [.ref 160, .int x3, .int x5] I L P (fun I75 L76 P77 =>
      Q (some (.int 0)) I75 L76 P77 205
    )
  ))
set_option maxRecDepth 20000 in
theorem g_X12_unit_241 {d : Nat} {Q : zQt} {x3 : Int32} {x4 : Int32} {x5 : Int32} {I : zI} {L : zL} {P : zP} (hP : zPk P) (hd : 1 ≤ d) (hv : v_X12_unit_241 d Q x3 x4 x5 I L P) : gw_X12_unit (d + 1) Q 241 [some (.ref 160), none, none, some (.int x3), some (.int x4), some (.int x5)] [] I L P := by
  unfold v_X12_unit_241 at hv
  refine z_iload dX12_unit_241 rfl ?_
  refine z_if_ne (tgt := 255) dX12_unit_243 (by decide) (fun q65 => ?_) (fun q65 => ?_)
  · have hv := hv.1 q65
    refine z_iload_n dX12_unit_255 rfl ?_
    refine z_bipush (v := 40) dX12_unit_256 (by decide) ?_
    refine z_icmp_eq (tgt := 271) dX12_unit_258 (by decide) (fun q66 => ?_) (fun q66 => ?_)
    · have hv := hv.1 q66
      exact z_sub (by exact ⟨rfl, ⟨rfl, ⟨rfl, trivial⟩⟩⟩) hv
    · have hv := hv.2 q66
      refine z_aload_n dX12_unit_261 rfl ?_
      refine z_aload_n dX12_unit_262 rfl ?_
      refine z_bipush (v := 40) dX12_unit_263 (by decide) ?_
      obtain ⟨h67, hv⟩ := hv
      refine z_callV (As := [.int 40]) (st := [.ref 160]) dX12_unit_265 zl_X12_291 zv_X12_stands (by decide) rfl zn_160 zo_160 rfl rfl (Nat.le_of_ble_eq_true rfl) ⟨Nat.le_refl _, Nat.le_refl _⟩ ⟨Nat.le_refl _, Nat.le_refl _⟩ (sp_X12_stands hP h67 (by omega) (K := fun r I' L' P' => bP (I 160 8 = 5 ∧ sSg I (I 160 6) = 40) = r ∧ I = I' ∧ L = L' ∧ P = P') ⟨rfl, rfl, rfl, rfl⟩) (fun v1 I2 L2 P2 nx1 q69 => ?_)
      obtain ⟨rfl, r68, rfl, rfl, rfl, rfl, rfl⟩ := q69
      refine z_callV (As := [.int (bP (I 160 8 = 5 ∧ sSg I (I 160 6) = 40))]) (st := []) dX12_unit_268 zl_X12_294 zv_X12_must (by decide) rfl zn_160 zo_160 rfl rfl (Nat.le_of_ble_eq_true rfl) ⟨Nat.le_refl _, Nat.le_refl _⟩ ⟨Nat.le_refl _, Nat.le_refl _⟩ hv (fun v1 I70 L71 P72 nx1 q73 => ?_)
      obtain ⟨rfl, rfl, hv⟩ := q73
      exact z_sub (by exact ⟨rfl, ⟨rfl, ⟨rfl, trivial⟩⟩⟩) hv
  · have hv := hv.2 q65
    refine z_aload_n dX12_unit_246 rfl ?_
    refine z_iload_n dX12_unit_247 rfl ?_
    refine z_iload dX12_unit_248 rfl ?_
    refine z_callV (As := [.int x3, .int x5]) (st := []) dX12_unit_250 zl_X12_330 zv_X12_emit (by decide) rfl zn_160 zo_160 rfl rfl (Nat.le_of_ble_eq_true rfl) ⟨Nat.le_refl _, Nat.le_refl _⟩ ⟨Nat.le_refl _, Nat.le_refl _⟩ hv (fun v1 I75 L76 P77 nx1 q78 => ?_)
    obtain ⟨rfl, rfl, hv⟩ := q78
    refine z_iconst (v := 0) dX12_unit_253 (by decide) ?_
    exact z_ireturn dX12_unit_254 rfl (by decide) (Nat.le_refl _) (Nat.le_refl _) hv
abbrev v_X12_unit_231 (d : Nat) (Q : zQt) (x3 : Int32) (x4 : Int32) (I : zI) (L : zL) (P : zP) : Prop :=
  zMi zm_X12_here d [.ref 160] I L P (fun r59 I55 L56 P57 =>
    zMi zm_X12_known d [.ref 160, .int r59] I55 L56 P57 (fun r64 I60 L61 P62 =>
      gw_X12_unit (d + 1) Q 241 [some (.ref 160), none, none, some (.int x3), some (.int x4), some (.int r64)] [] I60 L61 P62
    )
  )
set_option maxRecDepth 20000 in
theorem g_X12_unit_231 {d : Nat} {Q : zQt} {x3 : Int32} {x4 : Int32} {I : zI} {L : zL} {P : zP} (hP : zPk P) (hd : 1 ≤ d) (hv : v_X12_unit_231 d Q x3 x4 I L P) : gw_X12_unit (d + 1) Q 231 [some (.ref 160), none, none, some (.int x3), some (.int x4), none] [] I L P := by
  unfold v_X12_unit_231 at hv
  refine z_aload_n dX12_unit_231 rfl ?_
  refine z_aload_n dX12_unit_232 rfl ?_
  refine z_callV (As := []) (st := [.ref 160]) dX12_unit_233 zl_X12_298 zv_X12_here (by decide) rfl zn_160 zo_160 rfl rfl (Nat.le_of_ble_eq_true rfl) ⟨Nat.le_refl _, Nat.le_refl _⟩ ⟨Nat.le_refl _, Nat.le_refl _⟩ hv (fun v1 I55 L56 P57 nx1 q58 => ?_)
  obtain ⟨rfl, r59, rfl, hv⟩ := q58
  refine z_callV (As := [.int r59]) (st := []) dX12_unit_236 zl_X12_305 zv_X12_known (by decide) rfl zn_160 zo_160 rfl rfl (Nat.le_of_ble_eq_true rfl) ⟨Nat.le_refl _, Nat.le_refl _⟩ ⟨Nat.le_refl _, Nat.le_refl _⟩ hv (fun v1 I60 L61 P62 nx1 q63 => ?_)
  obtain ⟨rfl, r64, rfl, hv⟩ := q63
  refine z_istore (lv2 := [some (.ref 160), none, none, some (.int x3), some (.int x4), some (.int r64)]) dX12_unit_239 (by decide) rfl rfl ?_
  exact hv
abbrev v_X12_unit_213 (d : Nat) (Q : zQt) (x3 : Int32) (x4 : Int32) (x5 : Int32) (I : zI) (L : zL) (P : zP) : Prop :=
  ((x3 = 104 →
    gw_X12_unit (d + 1) Q 231 [some (.ref 160), none, none, some (.int x3), some (.int x4), none] [] I L P
  ) ∧ (¬ x3 = 104 →
    ((x3 = 103 →
      gw_X12_unit (d + 1) Q 231 [some (.ref 160), none, none, some (.int x3), some (.int x4), none] [] I L P
    ) ∧ (¬ x3 = 103 →
      ((¬ x3 = 107 →
        gw_X12_unit (d + 1) Q 241 [some (.ref 160), none, none, some (.int x3), some (.int x4), some (.int x5)] [] I L P
      ) ∧ (x3 = 107 →
        gw_X12_unit (d + 1) Q 231 [some (.ref 160), none, none, some (.int x3), some (.int x4), none] [] I L P
      ))
    ))
  ))
set_option maxRecDepth 20000 in
theorem g_X12_unit_213 {d : Nat} {Q : zQt} {x3 : Int32} {x4 : Int32} {x5 : Int32} {I : zI} {L : zL} {P : zP} (hP : zPk P) (hd : 1 ≤ d) (hv : v_X12_unit_213 d Q x3 x4 x5 I L P) : gw_X12_unit (d + 1) Q 213 [some (.ref 160), none, none, some (.int x3), some (.int x4), some (.int x5)] [] I L P := by
  unfold v_X12_unit_213 at hv
  refine z_iload_n dX12_unit_213 rfl ?_
  refine z_bipush (v := 104) dX12_unit_214 (by decide) ?_
  refine z_icmp_eq (tgt := 231) dX12_unit_216 (by decide) (fun q52 => ?_) (fun q52 => ?_)
  · have hv := hv.1 q52
    exact z_sub (by exact ⟨rfl, ⟨rfl, ⟨rfl, trivial⟩⟩⟩) hv
  · have hv := hv.2 q52
    refine z_iload_n dX12_unit_219 rfl ?_
    refine z_bipush (v := 103) dX12_unit_220 (by decide) ?_
    refine z_icmp_eq (tgt := 231) dX12_unit_222 (by decide) (fun q53 => ?_) (fun q53 => ?_)
    · have hv := hv.1 q53
      exact z_sub (by exact ⟨rfl, ⟨rfl, ⟨rfl, trivial⟩⟩⟩) hv
    · have hv := hv.2 q53
      refine z_iload_n dX12_unit_225 rfl ?_
      refine z_bipush (v := 107) dX12_unit_226 (by decide) ?_
      refine z_icmp_ne (tgt := 241) dX12_unit_228 (by decide) (fun q54 => ?_) (fun q54 => ?_)
      · have hv := hv.1 q54
        exact hv
      · have hv := hv.2 q54
        exact z_sub (by exact ⟨rfl, ⟨rfl, ⟨rfl, trivial⟩⟩⟩) hv
abbrev v_X12_unit_183 (d : Nat) (Q : zQt) (x2 : Int32) (x3 : Int32) (x4 : Int32) (t0 : Int32) (I : zI) (L : zL) (P : zP) : Prop :=
  zMv zm_X12_goOn d [.ref 160] I L P (fun I39 L40 P41 =>
    ((x2 = 0 →
      gw_X12_unit (d + 1) Q 213 [some (.ref 160), none, none, some (.int x3), some (.int x4), some (.int t0)] [] I39 L40 P41
    ) ∧ (¬ x2 = 0 →
      zMv zm_X12_pushE d [.ref 160, .int 3, .int 126, .int 0] I39 L40 P41 (fun I45 L46 P47 =>
        ∀ I50 : zI, I50 = zuI I45 160 33 ((I45 160 33) + 1) →
        Q (some (.int 1)) I50 L46 P47 205
      )
    ))
  )
set_option maxRecDepth 20000 in
theorem g_X12_unit_183 {d : Nat} {Q : zQt} {x2 : Int32} {x3 : Int32} {x4 : Int32} {t0 : Int32} {I : zI} {L : zL} {P : zP} (hP : zPk P) (hd : 1 ≤ d) (hv : v_X12_unit_183 d Q x2 x3 x4 t0 I L P) : gw_X12_unit (d + 1) Q 183 [some (.ref 160), none, some (.int x2), some (.int x3), some (.int x4), none] [.int t0] I L P := by
  unfold v_X12_unit_183 at hv
  refine z_istore (lv2 := [some (.ref 160), none, some (.int x2), some (.int x3), some (.int x4), some (.int t0)]) dX12_unit_183 (by decide) rfl rfl ?_
  refine z_aload_n dX12_unit_185 rfl ?_
  refine z_callV (As := []) (st := []) dX12_unit_186 zl_X12_237 zv_X12_goOn (by decide) rfl zn_160 zo_160 rfl rfl (Nat.le_of_ble_eq_true rfl) ⟨Nat.le_refl _, Nat.le_refl _⟩ ⟨Nat.le_refl _, Nat.le_refl _⟩ hv (fun v1 I39 L40 P41 nx1 q42 => ?_)
  obtain ⟨rfl, rfl, hv⟩ := q42
  refine z_iload_n dX12_unit_189 rfl ?_
  refine z_if_eq (tgt := 213) dX12_unit_190 (by decide) (fun q44 => ?_) (fun q44 => ?_)
  · have hv := hv.1 q44
    exact z_sub (by exact ⟨rfl, ⟨rfl, ⟨rfl, ⟨rfl, trivial⟩⟩⟩⟩) hv
  · have hv := hv.2 q44
    refine z_aload_n dX12_unit_193 rfl ?_
    refine z_iconst (v := 3) dX12_unit_194 (by decide) ?_
    refine z_bipush (v := 126) dX12_unit_195 (by decide) ?_
    refine z_iconst (v := 0) dX12_unit_197 (by decide) ?_
    refine z_callV (As := [.int 3, .int 126, .int 0]) (st := []) dX12_unit_198 zl_X12_317 zv_X12_pushE (by decide) rfl zn_160 zo_160 rfl rfl (Nat.le_of_ble_eq_true rfl) ⟨Nat.le_refl _, Nat.le_refl _⟩ ⟨Nat.le_refl _, Nat.le_refl _⟩ hv (fun v1 I45 L46 P47 nx1 q48 => ?_)
    obtain ⟨rfl, rfl, hv⟩ := q48
    refine z_aload_n dX12_unit_201 rfl ?_
    refine z_dup dX12_unit_202 rfl ?_
    refine z_getI dX12_unit_203 zf_X12_314 zn_160 zo_160 (fun _ _ _ _ _ => rfl) ?_
    refine z_iconst (v := 1) dX12_unit_206 (by decide) ?_
    refine z_iadd dX12_unit_207 ?_
    refine z_putI dX12_unit_208 zf_X12_314 zn_160 zo_160 (Or.inl rfl) (fun _ _ _ _ _ => rfl) rfl rfl (z_nmI (fun I50 e51 => ?_))
    have hv := hv I50 e51
    refine z_iconst (v := 1) dX12_unit_211 (by decide) ?_
    exact z_ireturn dX12_unit_212 rfl (by decide) (Nat.le_refl _) (Nat.le_refl _) hv
abbrev v_X12_unit_167 (d : Nat) (Q : zQt) (x2 : Int32) (x3 : Int32) (x4 : Int32) (t0 : Int32) (t1 : Int32) (t2 : Int32) (I : zI) (L : zL) (P : zP) : Prop :=
  vp_in t2 3 ∧
  ∀ I37 : zI, I37 = zuI I 166 t2.toNatClampNeg (t1 + t0) →
  ((¬ x3 = 110 →
    gw_X12_unit (d + 1) Q 183 [some (.ref 160), none, some (.int x2), some (.int x3), some (.int x4), none] [.int 0] I37 L P
  ) ∧ (x3 = 110 →
    gw_X12_unit (d + 1) Q 183 [some (.ref 160), none, some (.int x2), some (.int x3), some (.int x4), none] [.int (I37 160 9)] I37 L P
  ))
set_option maxRecDepth 20000 in
theorem g_X12_unit_167 {d : Nat} {Q : zQt} {x2 : Int32} {x3 : Int32} {x4 : Int32} {t0 : Int32} {t1 : Int32} {t2 : Int32} {I : zI} {L : zL} {P : zP} (hP : zPk P) (hd : 1 ≤ d) (hv : v_X12_unit_167 d Q x2 x3 x4 t0 t1 t2 I L P) : gw_X12_unit (d + 1) Q 167 [some (.ref 160), none, some (.int x2), some (.int x3), some (.int x4), none] [.int t0, .int t1, .int t2, .ref 166] I L P := by
  unfold v_X12_unit_167 at hv
  refine z_iadd dX12_unit_167 ?_
  obtain ⟨h35, hv⟩ := hv
  refine z_iastore dX12_unit_168 zn_166 zh_166 h35 (z_nmI (fun I37 e36 => ?_))
  have hv := hv I37 e36
  refine z_iload_n dX12_unit_169 rfl ?_
  refine z_bipush (v := 110) dX12_unit_170 (by decide) ?_
  refine z_icmp_ne (tgt := 182) dX12_unit_172 (by decide) (fun q38 => ?_) (fun q38 => ?_)
  · have hv := hv.1 q38
    refine z_iconst (v := 0) dX12_unit_182 (by decide) ?_
    exact hv
  · have hv := hv.2 q38
    refine z_aload_n dX12_unit_175 rfl ?_
    refine z_getI dX12_unit_176 zf_X12_223 zn_160 zo_160 (fun _ _ _ _ _ => rfl) ?_
    refine z_goto (tgt := 183) dX12_unit_179 (by decide) ?_
    exact hv
abbrev v_X12_unit_139 (d : Nat) (Q : zQt) (x2 : Int32) (x3 : Int32) (x4 : Int32) (I : zI) (L : zL) (P : zP) : Prop :=
  ((¬ (bP (I 160 4 = 0)) = 0 →
    vp_in (I 160 30) 3 ∧
    ((x2 = 0 →
      gw_X12_unit (d + 1) Q 167 [some (.ref 160), none, some (.int x2), some (.int x3), some (.int x4), none] [.int 1, .int (I 166 (I 160 30).toNatClampNeg), .int (I 160 30), .ref 166] I L P
    ) ∧ (¬ x2 = 0 →
      gw_X12_unit (d + 1) Q 167 [some (.ref 160), none, some (.int x2), some (.int x3), some (.int x4), none] [.int 0, .int (I 166 (I 160 30).toNatClampNeg), .int (I 160 30), .ref 166] I L P
    ))
  ) ∧ ((bP (I 160 4 = 0)) = 0 →
    Q (some (.int 1)) I L P 205
  ))
set_option maxRecDepth 20000 in
theorem g_X12_unit_139 {d : Nat} {Q : zQt} {x2 : Int32} {x3 : Int32} {x4 : Int32} {I : zI} {L : zL} {P : zP} (hP : zPk P) (hd : 1 ≤ d) (hv : v_X12_unit_139 d Q x2 x3 x4 I L P) : gw_X12_unit (d + 1) Q 139 [some (.ref 160), none, some (.int x2), some (.int x3), some (.int x4), none] [] I L P := by
  unfold v_X12_unit_139 at hv
  refine z_aload_n dX12_unit_139 rfl ?_
  refine z_callV (As := []) (st := []) dX12_unit_140 zl_X12_233 zv_X12_isGood (by decide) rfl zn_160 zo_160 rfl rfl (Nat.le_of_ble_eq_true rfl) ⟨Nat.le_refl _, Nat.le_refl _⟩ ⟨Nat.le_refl _, Nat.le_refl _⟩ (sp_X12_isGood hP (K := fun r I' L' P' => bP (I 160 4 = 0) = r ∧ I = I' ∧ L = L' ∧ P = P') ⟨rfl, rfl, rfl, rfl⟩) (fun v1 I2 L2 P2 nx1 q31 => ?_)
  obtain ⟨rfl, r30, rfl, rfl, rfl, rfl, rfl⟩ := q31
  refine z_if_ne (tgt := 148) dX12_unit_143 (by decide) (fun q32 => ?_) (fun q32 => ?_)
  · have hv := hv.1 q32
    refine z_aload_n dX12_unit_148 rfl ?_
    refine z_getP dX12_unit_149 zf_X12_30 zn_160 zo_160 (fun _ _ _ _ _ => rfl) (hP 160 14 166 zp_160_14) ?_
    refine z_aload_n dX12_unit_152 rfl ?_
    refine z_getI dX12_unit_153 zf_X12_249 zn_160 zo_160 (fun _ _ _ _ _ => rfl) ?_
    refine z_dup2 dX12_unit_156 rfl rfl ?_
    obtain ⟨h33, hv⟩ := hv
    refine z_iaload dX12_unit_157 zn_166 zh_166 h33 ?_
    refine z_iload_n dX12_unit_158 rfl ?_
    refine z_if_eq (tgt := 166) dX12_unit_159 (by decide) (fun q34 => ?_) (fun q34 => ?_)
    · have hv := hv.1 q34
      refine z_iconst (v := 1) dX12_unit_166 (by decide) ?_
      exact hv
    · have hv := hv.2 q34
      refine z_iconst (v := 0) dX12_unit_162 (by decide) ?_
      refine z_goto (tgt := 167) dX12_unit_163 (by decide) ?_
      exact hv
  · have hv := hv.2 q32
    refine z_iconst (v := 1) dX12_unit_146 (by decide) ?_
    exact z_ireturn dX12_unit_147 rfl (by decide) (Nat.le_refl _) (Nat.le_refl _) hv
abbrev v_X12_unit_135 (d : Nat) (Q : zQt) (x2 : Int32) (x3 : Int32) (x4 : Int32) (I : zI) (L : zL) (P : zP) : Prop :=
  zMv zm_X12_misplaced d [.ref 160] I L P (fun I25 L26 P27 =>
    gw_X12_unit (d + 1) Q 139 [some (.ref 160), none, some (.int x2), some (.int x3), some (.int x4), none] [] I25 L26 P27
  )
set_option maxRecDepth 20000 in
theorem g_X12_unit_135 {d : Nat} {Q : zQt} {x2 : Int32} {x3 : Int32} {x4 : Int32} {I : zI} {L : zL} {P : zP} (hP : zPk P) (hd : 1 ≤ d) (hv : v_X12_unit_135 d Q x2 x3 x4 I L P) : gw_X12_unit (d + 1) Q 135 [some (.ref 160), none, some (.int x2), some (.int x3), some (.int x4), none] [] I L P := by
  unfold v_X12_unit_135 at hv
  refine z_aload_n dX12_unit_135 rfl ?_
  refine z_callV (As := []) (st := []) dX12_unit_136 zl_X12_240 zv_X12_misplaced (by decide) rfl zn_160 zo_160 rfl rfl (Nat.le_of_ble_eq_true rfl) ⟨Nat.le_refl _, Nat.le_refl _⟩ ⟨Nat.le_refl _, Nat.le_refl _⟩ hv (fun v1 I25 L26 P27 nx1 q28 => ?_)
  obtain ⟨rfl, rfl, hv⟩ := q28
  exact hv
abbrev v_X12_unit_117 (d : Nat) (Q : zQt) (x2 : Int32) (x3 : Int32) (x4 : Int32) (I : zI) (L : zL) (P : zP) : Prop :=
  ((¬ x2 = 0 →
    ((¬ (I 160 33) = 7 →
      gw_X12_unit (d + 1) Q 139 [some (.ref 160), none, some (.int x2), some (.int x3), some (.int x4), none] [] I L P
    ) ∧ ((I 160 33) = 7 →
      gw_X12_unit (d + 1) Q 135 [some (.ref 160), none, some (.int x2), some (.int x3), some (.int x4), none] [] I L P
    ))
  ) ∧ (x2 = 0 →
    ((x4 = 0 →
      gw_X12_unit (d + 1) Q 139 [some (.ref 160), none, some (.int x2), some (.int x3), some (.int x4), none] [] I L P
    ) ∧ (¬ x4 = 0 →
      ((¬ (I 160 33) = 7 →
        gw_X12_unit (d + 1) Q 139 [some (.ref 160), none, some (.int x2), some (.int x3), some (.int x4), none] [] I L P
      ) ∧ ((I 160 33) = 7 →
        gw_X12_unit (d + 1) Q 135 [some (.ref 160), none, some (.int x2), some (.int x3), some (.int x4), none] [] I L P
      ))
    ))
  ))
set_option maxRecDepth 20000 in
theorem g_X12_unit_117 {d : Nat} {Q : zQt} {x2 : Int32} {x3 : Int32} {x4 : Int32} {I : zI} {L : zL} {P : zP} (hP : zPk P) (hd : 1 ≤ d) (hv : v_X12_unit_117 d Q x2 x3 x4 I L P) : gw_X12_unit (d + 1) Q 117 [some (.ref 160), none, some (.int x2), some (.int x3), some (.int x4), none] [] I L P := by
  unfold v_X12_unit_117 at hv
  refine z_iload_n dX12_unit_117 rfl ?_
  refine z_if_ne (tgt := 126) dX12_unit_118 (by decide) (fun q21 => ?_) (fun q21 => ?_)
  · have hv := hv.1 q21
    refine z_aload_n dX12_unit_126 rfl ?_
    refine z_getI dX12_unit_127 zf_X12_314 zn_160 zo_160 (fun _ _ _ _ _ => rfl) ?_
    refine z_bipush (v := 7) dX12_unit_130 (by decide) ?_
    refine z_icmp_ne (tgt := 139) dX12_unit_132 (by decide) (fun q22 => ?_) (fun q22 => ?_)
    · have hv := hv.1 q22
      exact hv
    · have hv := hv.2 q22
      exact hv
  · have hv := hv.2 q21
    refine z_iload dX12_unit_121 rfl ?_
    refine z_if_eq (tgt := 139) dX12_unit_123 (by decide) (fun q23 => ?_) (fun q23 => ?_)
    · have hv := hv.1 q23
      exact hv
    · have hv := hv.2 q23
      refine z_aload_n dX12_unit_126 rfl ?_
      refine z_getI dX12_unit_127 zf_X12_314 zn_160 zo_160 (fun _ _ _ _ _ => rfl) ?_
      refine z_bipush (v := 7) dX12_unit_130 (by decide) ?_
      refine z_icmp_ne (tgt := 139) dX12_unit_132 (by decide) (fun q24 => ?_) (fun q24 => ?_)
      · have hv := hv.1 q24
        exact hv
      · have hv := hv.2 q24
        exact hv
abbrev v_X12_unit_91 (d : Nat) (Q : zQt) (x2 : Int32) (x3 : Int32) (t0 : Int32) (I : zI) (L : zL) (P : zP) : Prop :=
  ((¬ x2 = 0 →
    gw_X12_unit (d + 1) Q 117 [some (.ref 160), none, some (.int x2), some (.int x3), some (.int t0), none] [] I L P
  ) ∧ (x2 = 0 →
    ((x3 = 0 →
      gw_X12_unit (d + 1) Q 135 [some (.ref 160), none, some (.int x2), some (.int x3), some (.int t0), none] [] I L P
    ) ∧ (¬ x3 = 0 →
      vp_in (I 160 30) 3 ∧
      (((I 166 (I 160 30).toNatClampNeg) = (I 160 31) →
        gw_X12_unit (d + 1) Q 135 [some (.ref 160), none, some (.int x2), some (.int x3), some (.int t0), none] [] I L P
      ) ∧ (¬ (I 166 (I 160 30).toNatClampNeg) = (I 160 31) →
        gw_X12_unit (d + 1) Q 117 [some (.ref 160), none, some (.int x2), some (.int x3), some (.int t0), none] [] I L P
      ))
    ))
  ))
set_option maxRecDepth 20000 in
theorem g_X12_unit_91 {d : Nat} {Q : zQt} {x2 : Int32} {x3 : Int32} {t0 : Int32} {I : zI} {L : zL} {P : zP} (hP : zPk P) (hd : 1 ≤ d) (hv : v_X12_unit_91 d Q x2 x3 t0 I L P) : gw_X12_unit (d + 1) Q 91 [some (.ref 160), none, some (.int x2), some (.int x3), none, none] [.int t0] I L P := by
  unfold v_X12_unit_91 at hv
  refine z_istore (lv2 := [some (.ref 160), none, some (.int x2), some (.int x3), some (.int t0), none]) dX12_unit_91 (by decide) rfl rfl ?_
  refine z_iload_n dX12_unit_93 rfl ?_
  refine z_if_ne (tgt := 117) dX12_unit_94 (by decide) (fun q17 => ?_) (fun q17 => ?_)
  · have hv := hv.1 q17
    exact hv
  · have hv := hv.2 q17
    refine z_iload_n dX12_unit_97 rfl ?_
    refine z_if_eq (tgt := 135) dX12_unit_98 (by decide) (fun q18 => ?_) (fun q18 => ?_)
    · have hv := hv.1 q18
      exact hv
    · have hv := hv.2 q18
      refine z_aload_n dX12_unit_101 rfl ?_
      refine z_getP dX12_unit_102 zf_X12_30 zn_160 zo_160 (fun _ _ _ _ _ => rfl) (hP 160 14 166 zp_160_14) ?_
      refine z_aload_n dX12_unit_105 rfl ?_
      refine z_getI dX12_unit_106 zf_X12_249 zn_160 zo_160 (fun _ _ _ _ _ => rfl) ?_
      obtain ⟨h19, hv⟩ := hv
      refine z_iaload dX12_unit_109 zn_166 zh_166 h19 ?_
      refine z_aload_n dX12_unit_110 rfl ?_
      refine z_getI dX12_unit_111 zf_X12_252 zn_160 zo_160 (fun _ _ _ _ _ => rfl) ?_
      refine z_icmp_eq (tgt := 135) dX12_unit_114 (by decide) (fun q20 => ?_) (fun q20 => ?_)
      · have hv := hv.1 q20
        exact hv
      · have hv := hv.2 q20
        exact hv
abbrev v_X12_unit_56 (d : Nat) (Q : zQt) (t0 : Int32) (I : zI) (L : zL) (P : zP) : Prop :=
  zMi zm_X12_unitHere d [.ref 160] I L P (fun r12 I8 L9 P10 =>
    ((r12 = 40 →
      gw_X12_unit (d + 1) Q 91 [some (.ref 160), none, some (.int t0), some (.int r12), none, none] [.int 1] I8 L9 P10
    ) ∧ (¬ r12 = 40 →
      ((r12 = 107 →
        gw_X12_unit (d + 1) Q 91 [some (.ref 160), none, some (.int t0), some (.int r12), none, none] [.int 1] I8 L9 P10
      ) ∧ (¬ r12 = 107 →
        ((r12 = 97 →
          gw_X12_unit (d + 1) Q 91 [some (.ref 160), none, some (.int t0), some (.int r12), none, none] [.int 1] I8 L9 P10
        ) ∧ (¬ r12 = 97 →
          ((¬ r12 = 99 →
            gw_X12_unit (d + 1) Q 91 [some (.ref 160), none, some (.int t0), some (.int r12), none, none] [.int 0] I8 L9 P10
          ) ∧ (r12 = 99 →
            gw_X12_unit (d + 1) Q 91 [some (.ref 160), none, some (.int t0), some (.int r12), none, none] [.int 1] I8 L9 P10
          ))
        ))
      ))
    ))
  )
set_option maxRecDepth 20000 in
theorem g_X12_unit_56 {d : Nat} {Q : zQt} {t0 : Int32} {I : zI} {L : zL} {P : zP} (hP : zPk P) (hd : 1 ≤ d) (hv : v_X12_unit_56 d Q t0 I L P) : gw_X12_unit (d + 1) Q 56 [some (.ref 160), none, none, none, none, none] [.int t0] I L P := by
  unfold v_X12_unit_56 at hv
  refine z_istore_n (lv2 := [some (.ref 160), none, some (.int t0), none, none, none]) dX12_unit_56 (by decide) rfl rfl ?_
  refine z_aload_n dX12_unit_57 rfl ?_
  refine z_callV (As := []) (st := []) dX12_unit_58 zl_X12_327 zv_X12_unitHere (by decide) rfl zn_160 zo_160 rfl rfl (Nat.le_of_ble_eq_true rfl) ⟨Nat.le_refl _, Nat.le_refl _⟩ ⟨Nat.le_refl _, Nat.le_refl _⟩ hv (fun v1 I8 L9 P10 nx1 q11 => ?_)
  obtain ⟨rfl, r12, rfl, hv⟩ := q11
  refine z_istore_n (lv2 := [some (.ref 160), none, some (.int t0), some (.int r12), none, none]) dX12_unit_61 (by decide) rfl rfl ?_
  refine z_iload_n dX12_unit_62 rfl ?_
  refine z_bipush (v := 40) dX12_unit_63 (by decide) ?_
  refine z_icmp_eq (tgt := 86) dX12_unit_65 (by decide) (fun q13 => ?_) (fun q13 => ?_)
  · have hv := hv.1 q13
    refine z_iconst (v := 1) dX12_unit_86 (by decide) ?_
    refine z_goto (tgt := 91) dX12_unit_87 (by decide) ?_
    exact hv
  · have hv := hv.2 q13
    refine z_iload_n dX12_unit_68 rfl ?_
    refine z_bipush (v := 107) dX12_unit_69 (by decide) ?_
    refine z_icmp_eq (tgt := 86) dX12_unit_71 (by decide) (fun q14 => ?_) (fun q14 => ?_)
    · have hv := hv.1 q14
      refine z_iconst (v := 1) dX12_unit_86 (by decide) ?_
      refine z_goto (tgt := 91) dX12_unit_87 (by decide) ?_
      exact hv
    · have hv := hv.2 q14
      refine z_iload_n dX12_unit_74 rfl ?_
      refine z_bipush (v := 97) dX12_unit_75 (by decide) ?_
      refine z_icmp_eq (tgt := 86) dX12_unit_77 (by decide) (fun q15 => ?_) (fun q15 => ?_)
      · have hv := hv.1 q15
        refine z_iconst (v := 1) dX12_unit_86 (by decide) ?_
        refine z_goto (tgt := 91) dX12_unit_87 (by decide) ?_
        exact hv
      · have hv := hv.2 q15
        refine z_iload_n dX12_unit_80 rfl ?_
        refine z_bipush (v := 99) dX12_unit_81 (by decide) ?_
        refine z_icmp_ne (tgt := 90) dX12_unit_83 (by decide) (fun q16 => ?_) (fun q16 => ?_)
        · have hv := hv.1 q16
          refine z_iconst (v := 0) dX12_unit_90 (by decide) ?_
          exact hv
        · have hv := hv.2 q16
          refine z_iconst (v := 1) dX12_unit_86 (by decide) ?_
          refine z_goto (tgt := 91) dX12_unit_87 (by decide) ?_
          exact hv
abbrev v_X12_unit_36 (d : Nat) (Q : zQt) (t0 : Int32) (I : zI) (L : zL) (P : zP) : Prop :=
  ((t0 = 0 →
    gw_X12_unit (d + 1) Q 56 [some (.ref 160), none, none, none, none, none] [.int 0] I L P
  ) ∧ (¬ t0 = 0 →
    (((bP (I 160 8 = 3 ∧ L 160 10 = 7237492)) = 0 →
      gw_X12_unit (d + 1) Q 56 [some (.ref 160), none, none, none, none, none] [.int 0] I L P
    ) ∧ (¬ (bP (I 160 8 = 3 ∧ L 160 10 = 7237492)) = 0 →
      gw_X12_unit (d + 1) Q 56 [some (.ref 160), none, none, none, none, none] [.int 1] I L P
    ))
  ))
set_option maxRecDepth 20000 in
theorem g_X12_unit_36 {d : Nat} {Q : zQt} {t0 : Int32} {I : zI} {L : zL} {P : zP} (hP : zPk P) (hd : 1 ≤ d) (hv : v_X12_unit_36 d Q t0 I L P) : gw_X12_unit (d + 1) Q 36 [some (.ref 160), none, none, none, none, none] [.int t0] I L P := by
  unfold v_X12_unit_36 at hv
  refine z_istore_n (lv2 := [some (.ref 160), some (.int t0), none, none, none, none]) dX12_unit_36 (by decide) rfl rfl ?_
  refine z_iload_n dX12_unit_37 rfl ?_
  refine z_if_eq (tgt := 55) dX12_unit_38 (by decide) (fun q4 => ?_) (fun q4 => ?_)
  · have hv := hv.1 q4
    refine z_iconst (v := 0) dX12_unit_55 (by decide) ?_
    exact z_sub (by exact ⟨rfl, trivial⟩) hv
  · have hv := hv.2 q4
    refine z_aload_n dX12_unit_41 rfl ?_
    refine z_ldc2 (v := 7237492) dX12_unit_42 zj_X12_193 ?_
    refine z_callV (As := [.long 7237492]) (st := []) dX12_unit_45 zl_X12_270 zv_X12_isWord (by decide) rfl zn_160 zo_160 rfl rfl (Nat.le_of_ble_eq_true rfl) ⟨Nat.le_refl _, Nat.le_refl _⟩ ⟨Nat.le_refl _, Nat.le_refl _⟩ (sp_X12_isWord hP (K := fun r I' L' P' => bP (I 160 8 = 3 ∧ L 160 10 = 7237492) = r ∧ I = I' ∧ L = L' ∧ P = P') ⟨rfl, rfl, rfl, rfl⟩) (fun v1 I2 L2 P2 nx1 q6 => ?_)
    obtain ⟨rfl, r5, rfl, rfl, rfl, rfl, rfl⟩ := q6
    refine z_if_eq (tgt := 55) dX12_unit_48 (by decide) (fun q7 => ?_) (fun q7 => ?_)
    · have hv := hv.1 q7
      refine z_iconst (v := 0) dX12_unit_55 (by decide) ?_
      exact z_sub (by exact ⟨rfl, trivial⟩) hv
    · have hv := hv.2 q7
      refine z_iconst (v := 1) dX12_unit_51 (by decide) ?_
      refine z_goto (tgt := 56) dX12_unit_52 (by decide) ?_
      exact z_sub (by exact ⟨rfl, trivial⟩) hv
abbrev v_X12_unit (d : Nat) (Q : zQt)  (I : zI) (L : zL) (P : zP) : Prop :=
  vp_in ((I 160 34) - 1) 90 ∧
  (((I 177 ((I 160 34) - 1).toNatClampNeg) ≤ 3 →
    gw_X12_unit (d + 1) Q 36 [some (.ref 160), none, none, none, none, none] [.int 1] I L P
  ) ∧ (¬ (I 177 ((I 160 34) - 1).toNatClampNeg) ≤ 3 →
    (((I 177 ((I 160 34) - 1).toNatClampNeg) < 7 →
      gw_X12_unit (d + 1) Q 36 [some (.ref 160), none, none, none, none, none] [.int 0] I L P
    ) ∧ (¬ (I 177 ((I 160 34) - 1).toNatClampNeg) < 7 →
      gw_X12_unit (d + 1) Q 36 [some (.ref 160), none, none, none, none, none] [.int 1] I L P
    ))
  ))
set_option maxRecDepth 20000 in
theorem g_X12_unit {d : Nat} {Q : zQt}  {I : zI} {L : zL} {P : zP} (hP : zPk P) (hd : 1 ≤ d) (hv : v_X12_unit d Q  I L P) : zM zm_X12_unit (d + 1) 0 0 [.ref 160] I L P 205 Q := by
  unfold v_X12_unit at hv
  refine zM_of (lv0 := [some (.ref 160), none, none, none, none, none]) (by decide +kernel) (Nat.le_of_ble_eq_true rfl) rfl ?_
  refine z_aload_n dX12_unit_0 rfl ?_
  refine z_getP dX12_unit_1 zf_X12_65 zn_160 zo_160 (fun _ _ _ _ _ => rfl) (hP 160 25 177 zp_160_25) ?_
  refine z_aload_n dX12_unit_4 rfl ?_
  refine z_getI dX12_unit_5 zf_X12_311 zn_160 zo_160 (fun _ _ _ _ _ => rfl) ?_
  refine z_iconst (v := 1) dX12_unit_8 (by decide) ?_
  refine z_isub dX12_unit_9 ?_
  obtain ⟨h1, hv⟩ := hv
  refine z_iaload dX12_unit_10 zn_177 zh_177 h1 ?_
  refine z_iconst (v := 3) dX12_unit_11 (by decide) ?_
  refine z_icmp_le (tgt := 31) dX12_unit_12 (by decide) (fun q2 => ?_) (fun q2 => ?_)
  · have hv := hv.1 q2
    refine z_iconst (v := 1) dX12_unit_31 (by decide) ?_
    refine z_goto (tgt := 36) dX12_unit_32 (by decide) ?_
    exact hv
  · have hv := hv.2 q2
    refine z_aload_n dX12_unit_15 rfl ?_
    refine z_getP dX12_unit_16 zf_X12_65 zn_160 zo_160 (fun _ _ _ _ _ => rfl) (hP 160 25 177 zp_160_25) ?_
    refine z_aload_n dX12_unit_19 rfl ?_
    refine z_getI dX12_unit_20 zf_X12_311 zn_160 zo_160 (fun _ _ _ _ _ => rfl) ?_
    refine z_iconst (v := 1) dX12_unit_23 (by decide) ?_
    refine z_isub dX12_unit_24 ?_
    refine z_iaload dX12_unit_25 zn_177 zh_177 h1 ?_
    refine z_bipush (v := 7) dX12_unit_26 (by decide) ?_
    refine z_icmp_lt (tgt := 35) dX12_unit_28 (by decide) (fun q3 => ?_) (fun q3 => ?_)
    · have hv := hv.1 q3
      refine z_iconst (v := 0) dX12_unit_35 (by decide) ?_
      exact hv
    · have hv := hv.2 q3
      refine z_iconst (v := 1) dX12_unit_31 (by decide) ?_
      refine z_goto (tgt := 36) dX12_unit_32 (by decide) ?_
      exact hv
section UNIT
variable {d : Nat} {Q : zQt} {I0 : zI} {L0 : zL} {T : Nat → Int32} {n b R ua lim : Nat} {p0 : Int32} {I : zI} {L : zL} {P : zP} {S : List Ent} {w e u : Nat} {c : List (Int32 × Int32)}
theorem mJ_MR (hc : MR I0) (h : mJ I0 L0 b R ua I L) : MR I := by
  have f := h.1
  unfold MR vRp vR
  rw [f.2 29 (by decide), f.1 163 (by decide) (by decide)]
  exact hc
theorem mJ_hR (h : mJ I0 L0 b R ua I L) (e : Nat) : hR T n e I L = @ite _ (tK T n e = 273) (Classical.propDecidable _) (nmF I0 L0 (tV T n e)) none := by
  have f := h.1
  have e1 : vNm I L = vNm I0 L0 := by
    funext k
    unfold vNm vR
    rw [f.2 29 (by decide), h.2.1 174 _ (fun z => absurd z.1 (by decide))]
  have e2 : vRp I = vRp I0 := by unfold vRp vR; rw [f.2 29 (by decide), f.1 163 (by decide) (by decide)]
  unfold hR nmF
  rw [e1, e2]
theorem lp_X12_unit_271 {g p : Int32} {h : Nat} {v : Int32} (hP : zPk P) (hd : 1 ≤ d) (hS : S.length < 90) (hw : w < 8) (hm : mN I0 L0 T n b R ua g p I L S w e u c)
    (kk : ∀ I', mN I0 L0 T n b R ua g p I' L ((7, h, v) :: S) (w + 1) e u c → Q (some (.int 1)) I' L P 205) : gw_X12_unit (d + 1) Q 271 [some (.ref 160), none, none, some (.int (nI h)), none, some (.int v)] [] I L P := by
  refine g_X12_unit_271 hP (by omega) (mN_pu (a := 7) hP hS hm (fun I' h1 I2 e2 => ?_))
  rw [h1.2.2.2.2.1, nI_1] at e2
  subst e2
  exact kk _ (mN_w h1)
theorem lp_X12_unit_241 {h : Nat} {v : Int32} (hP : zPk P) (hC : cX I0 ua lim b R) (hS : S.length < 90) (hw : w < 8) (hc : c.length < R) (hh : h < 128) (hd : 2 ≤ d) (hm : mN I0 L0 T n b R ua 0 p0 I L S w e u c)
    (kk : mQ I0 L0 T n b R ua p0 Q P (uCon T n h v S w e u c)) : gw_X12_unit (d + 1) Q 241 [some (.ref 160), none, none, some (.int (nI h)), some (.int (bP (uOp h))), some (.int v)] [] I L P := by
  obtain ⟨g1, g2⟩ := pS_g hm.2.1
  have a40 : (I 160 8 = 5 ∧ sSg I (I 160 6) = 40) ↔ tK T n e = 40 := g2 40 (by decide) (by decide)
  unfold uCon at kk
  refine g_X12_unit_241 hP (by omega) ⟨fun q => ⟨fun q2 => ?_, fun q2 => ⟨g1, ?_⟩⟩, fun q => ?_⟩
  · rw [show (40 : Int32) = nI 40 from rfl, nI_eq (by omega) (by decide)] at q2
    rw [if_pos (bP_n.mp q), if_pos q2] at kk
    exact lp_X12_unit_271 hP (by omega) hS hw hm (fun I' h1 => kk I' L h1)
  · rw [show (40 : Int32) = nI 40 from rfl, nI_eq (by omega) (by decide)] at q2
    rw [if_pos (bP_n.mp q), if_neg q2] at kk
    rw [bP_c a40]
    refine sp_X12_must hP hm.2.2.1.1 hm.2.1 hd (fun q3 => ?_) (fun q3 I' L' f1 f2 f3 => ?_)
    · rw [if_neg q3] at kk
      refine lp_X12_unit_271 hP (by omega) hS hw (mN_ft _ _ hm) (fun I' h1 => ?_)
      exact kk 1 I' L h1.1 h1.2.2.1.1 h1.2.2.1.2 (pS_p h1.2.1)
    · rw [if_pos q3] at kk
      exact lp_X12_unit_271 hP (by omega) hS hw (mN_go hm f1 f2 f3) (fun I'' h1 => kk I'' L' h1)
  · rw [if_neg (bP_0.mp q)] at kk
    exact mN_em hP hc hC.2.2.2.2.2 hm (fun I' h1 => kk I' L h1)
/-- behind a fault -/
theorem lp_X12_unit_241b {h : Nat} {v x4 : Int32} {k q : Nat} (hP : zPk P) (hC : cX I0 ua lim b R) (hS : S.length < 90) (hw : w < 8) (hc : c.length < R) (hk : k ≠ 0 ∧ k < 100) (hd : 2 ≤ d) (hm : mN I0 L0 T n b R ua (nI k) (nI q) I L S w e u c)
    (kk : mQ I0 L0 T n b R ua p0 Q P (mF k q)) : gw_X12_unit (d + 1) Q 241 [some (.ref 160), none, none, some (.int (nI h)), some (.int x4), some (.int v)] [] I L P := by
  obtain ⟨g1, g2⟩ := pS_g hm.2.1
  have hb : ¬ I 160 4 = 0 := by rw [hm.2.2.1.1, nI_zero (by omega)]; exact hk.1
  have fin : gw_X12_unit (d + 1) Q 271 [some (.ref 160), none, none, some (.int (nI h)), none, some (.int v)] [] I L P :=
    lp_X12_unit_271 hP (by omega) hS hw hm (fun I' h1 => kk 1 I' L h1.1 h1.2.2.1.1 h1.2.2.1.2 (pS_p h1.2.1))
  refine g_X12_unit_241 hP (by omega) ⟨fun _ => ⟨fun _ => fin, fun _ => ⟨g1, sp_X12_mustB hP hb hd fin⟩⟩, fun _ => ?_⟩
  exact mN_em hP hc hC.2.2.2.2.2 hm (fun I' h1 => kk 0 I' L h1.1 h1.2.2.1.1 h1.2.2.1.2 (pS_p h1.2.1))
theorem lp_X12_unit_231 {h : Nat} (hP : zPk P) (hC : cX I0 ua lim b R) (hS : S.length < 90) (hw : w < 8) (hc : c.length < R) (hh : h < 128) (hd : 2 ≤ d) (hm : mN I0 L0 T n b R ua 0 p0 I L S w e u c)
    (kk : mQ I0 L0 T n b R ua p0 Q P (uNam T n (nmF I0 L0) h S w e u c)) : gw_X12_unit (d + 1) Q 231 [some (.ref 160), none, none, some (.int (nI h)), some (.int (bP (uOp h))), none] [] I L P := by
  have hM := mJ_MR hC.1 hm.1
  have eh := mJ_hR (T := T) (n := n) hm.1 e
  unfold uNam at kk
  refine g_X12_unit_231 hP (by omega) (sp_X12_here hP hM hm.2.1 (sp_X12_known hP hM hm.2.2.1.1 hm.2.1 hd (fun q => ?_) (fun q q2 => ?_) (fun k hk q q2 I' L' f1 f2 f3 => ?_)))
  · rw [if_neg q] at kk
    exact lp_X12_unit_241b hP hC hS hw hc (mis_nz T n e) hd (mN_ft _ _ hm) kk
  · rw [if_pos q] at kk eh
    rw [eh] at q2
    rw [q2] at kk
    exact lp_X12_unit_241b hP hC hS hw hc ⟨by decide, by decide⟩ hd (mN_ft 4 _ hm) kk
  · rw [if_pos q2] at kk eh
    rw [eh] at q
    rw [q] at kk
    exact lp_X12_unit_241 hP hC hS hw hc hh hd (mN_go hm f1 f2 f3) kk
theorem lp_X12_unit_213 {h : Nat} {v : Int32} (hP : zPk P) (hC : cX I0 ua lim b R) (hS : S.length < 90) (hw : w < 8) (hc : c.length < R) (hh : h < 128) (hd : 2 ≤ d) (hm : mN I0 L0 T n b R ua 0 p0 I L S w e u c)
    (kk : mQ I0 L0 T n b R ua p0 Q P (@ite _ (uNm h) (Classical.propDecidable _) (uNam T n (nmF I0 L0) h S w e u c) (uCon T n h v S w e u c))) : gw_X12_unit (d + 1) Q 213 [some (.ref 160), none, none, some (.int (nI h)), some (.int (bP (uOp h))), some (.int v)] [] I L P := by
  have c1 : nI h = 104 ↔ h = 104 := nI_eq (b := 104) (by omega) (by decide)
  have c2 : nI h = 103 ↔ h = 103 := nI_eq (b := 103) (by omega) (by decide)
  have c3 : nI h = 107 ↔ h = 107 := nI_eq (b := 107) (by omega) (by decide)
  refine g_X12_unit_213 hP (by omega) ?_
  unfold v_X12_unit_213
  rw [c1, c2, c3]
  refine ⟨fun q => ?_, fun q => ⟨fun q2 => ?_, fun q2 => ⟨fun q3 => ?_, fun q3 => ?_⟩⟩⟩
  · rw [if_pos (show uNm h from Or.inl q)] at kk; exact lp_X12_unit_231 hP hC hS hw hc hh hd hm kk
  · rw [if_pos (show uNm h from Or.inr (Or.inl q2))] at kk; exact lp_X12_unit_231 hP hC hS hw hc hh hd hm kk
  · rw [if_neg (show ¬ uNm h from fun z => z.elim q (fun z => z.elim q2 q3))] at kk; exact lp_X12_unit_241 hP hC hS hw hc hh hd hm kk
  · rw [if_pos (show uNm h from Or.inr (Or.inr q3))] at kk; exact lp_X12_unit_231 hP hC hS hw hc hh hd hm kk
/-- a unit begins -/
theorem lp_X12_unit_139 {h : Nat} (hP : zPk P) (hC : cX I0 ua lim b R) (hS : S.length < 90) (hw : w < 8) (hc : c.length < R) (hh : h < 128) (hu : u < 2 ^ 30) (hd : 2 ≤ d) (eh : h = uH (tK T n e)) (hm : mN I0 L0 T n b R ua 0 p0 I L S w e u c)
    (kk : mQ I0 L0 T n b R ua p0 Q P (@ite _ (uNm h) (Classical.propDecidable _) (uNam T n (nmF I0 L0) h S w (tE T n e) (u + 1) c) (uCon T n h (if h = 110 then tN T n e else 0) S w (tE T n e) (u + 1) c))) : gw_X12_unit (d + 1) Q 139 [some (.ref 160), none, some (.int 0), some (.int (nI h)), some (.int (bP (uOp h))), none] [] I L P := by
  obtain ⟨c1, c2, c3, c4, c5, c6⟩ := hC
  have f := hm.1.1
  have e30 : I 160 30 = nI ua := by rw [f.2 30 (by decide)]; exact c3
  have key : ∀ t, t = (if h = 110 then tN T n e else 0) → ∀ I1, mN I0 L0 T n b R ua 0 p0 I1 L S w e (u + 1) c → gw_X12_unit (d + 1) Q 183 [some (.ref 160), none, some (.int 0), some (.int (nI h)), some (.int (bP (uOp h))), none] [.int t] I1 L P := by
    intro t et I1 h1
    refine g_X12_unit_183 hP (by omega) (pS_go hP h1.2.1 (by omega) (fun I' L' f1 f2 f3 => ⟨fun _ => ?_, fun q => absurd rfl q⟩))
    rw [et]
    exact lp_X12_unit_213 hP ⟨c1, c2, c3, c4, c5, c6⟩ hS hw hc hh hd (mN_go h1 f1 f2 f3) kk
  refine g_X12_unit_139 hP (by omega) ⟨fun _ => ⟨by rw [e30]; exact nx_in c2 (by decide), fun _ => ?_, fun q => absurd rfl q⟩, fun q => absurd hm.2.2.1.1 (bP_0.mp q)⟩
  rw [e30, nI_cl (by omega), hm.2.2.2.2.2.2]
  refine g_X12_unit_167 hP (by omega) ⟨nx_in c2 (by decide), fun I1 e1 => ?_⟩
  rw [nI_cl (by omega), nI_1] at e1
  have h1 := mN_u (u' := u + 1) hm
  rw [← e1] at h1
  have c1' : nI h = 110 ↔ h = 110 := nI_eq (b := 110) (by omega) (by decide)
  rw [c1']
  refine ⟨fun q => key 0 (by rw [if_neg q]) I1 h1, fun q => key _ ?_ I1 h1⟩
  rw [if_pos q]
  refine h1.2.1.2.2.2.2.2 ?_
  rw [q] at eh
  have : uH (tK T n e) = 110 → tK T n e = 274 := by
    intro z
    unfold uH at z
    by_cases k1 : tK T n e = 274
    · exact k1
    · rw [if_neg k1] at z
      repeat' split at z
      all_goals omega
  exact this eh.symm
theorem lp_X12_unit_135 {x2 x3 x4 : Int32} (hP : zPk P) (hd : 2 ≤ d) (hm : mN I0 L0 T n b R ua 0 p0 I L S w e u c) (kk : mQ I0 L0 T n b R ua p0 Q P (mBad T n e)) : gw_X12_unit (d + 1) Q 135 [some (.ref 160), none, some (.int x2), some (.int x3), some (.int x4), none] [] I L P := by
  have m := mis_nz T n e
  have v := pFt_v I (mis T n e) (tA T n e)
  refine g_X12_unit_135 hP (by omega) (sp_X12_misplaced hP hm.2.2.1.1 hm.2.1 (by omega) (g_X12_unit_139 hP (by omega) ⟨fun q => absurd (bP_n.mp q) ?_, fun _ => ?_⟩))
  · rw [v.1, nI_zero (by omega)]; exact m.1
  · exact kk 1 _ L (mN_ft _ _ hm).1 v.1 v.2 (pS_p (mN_ft _ _ hm).2.1)
theorem uH_lt (k : Nat) : uH k < 128 := by
  unfold uH
  repeat' split
  all_goals decide
/-- a not -/
theorem lp_X12_unit_139n {h : Nat} {x4 : Int32} (hP : zPk P) (hC : cX I0 ua lim b R) (hS : S.length < 90) (hw : w < 8) (hh : h < 128) (hu : u < 2 ^ 30) (hd : 2 ≤ d) (hm : mN I0 L0 T n b R ua 0 p0 I L S w e u c)
    (kk : mQ I0 L0 T n b R ua p0 Q P (mT true ((3, 126, 0) :: S) (w + 1) (tE T n e) u c)) : gw_X12_unit (d + 1) Q 139 [some (.ref 160), none, some (.int 1), some (.int (nI h)), some (.int x4), none] [] I L P := by
  obtain ⟨c1, c2, c3, c4, c5, c6⟩ := hC
  have f := hm.1.1
  have e30 : I 160 30 = nI ua := by rw [f.2 30 (by decide)]; exact c3
  have key : ∀ t I1, mN I0 L0 T n b R ua 0 p0 I1 L S w e u c → gw_X12_unit (d + 1) Q 183 [some (.ref 160), none, some (.int 1), some (.int (nI h)), some (.int x4), none] [.int t] I1 L P := by
    intro t I1 h1
    refine g_X12_unit_183 hP (by omega) (pS_go hP h1.2.1 (by omega) (fun I' L' f1 f2 f3 => ⟨fun q => absurd q (by decide), fun _ => ?_⟩))
    refine mN_pu (a := 3) (s := 126) hP hS (mN_go h1 f1 f2 f3) (fun I2 h2 I3 e3 => ?_)
    rw [h2.2.2.2.2.1, nI_1] at e3
    subst e3
    exact kk _ L' (mN_w h2)
  refine g_X12_unit_139 hP (by omega) ⟨fun _ => ⟨by rw [e30]; exact nx_in c2 (by decide), fun q => absurd q (by decide), fun _ => ?_⟩, fun q => absurd hm.2.2.1.1 (bP_0.mp q)⟩
  rw [e30, nI_cl (by omega), hm.2.2.2.2.2.2]
  refine g_X12_unit_167 hP (by omega) ⟨nx_in c2 (by decide), fun I1 e1 => ?_⟩
  rw [nI_cl (by omega), show (nI u + 0 : Int32) = nI u by rw [show (0 : Int32) = nI 0 from rfl, nI_add]; rfl] at e1
  have h1 := mN_u (u' := u) hm
  rw [← e1] at h1
  exact ⟨fun _ => key _ I1 h1, fun _ => key _ I1 h1⟩
theorem sp_X12_unit {q : Ent} (hP : zPk P) (hC : cX I0 ua lim b R) (hS : (q :: S).length < 90) (hw : w ≤ 7) (hc : u < lim → c.length < R) (hu : u ≤ lim) (hq : q.1 < 9) (hd : 4 ≤ d) (hm : mN I0 L0 T n b R ua 0 p0 I L (q :: S) w e u c) {K : Int32 → zI → zL → zP → Prop}
    (kk : mQ I0 L0 T n b R ua p0 (fun v I' L' P' nx' => nx' = 205 ∧ ∃ r', v = some (.int r') ∧ K r' I' L' P') P (uStep T n (nmF I0 L0) lim (q :: S) w e u c)) : zMi zm_X12_unit d [.ref 160] I L P K := by
  obtain ⟨d, rfl⟩ : ∃ e, d = e + 1 := ⟨d - 1, by omega⟩
  have hC' := hC
  obtain ⟨c1, c2, c3, c4, c5, c6⟩ := hC
  have f := hm.1.1
  have e30 : I 160 30 = nI ua := by rw [f.2 30 (by decide)]; exact c3
  have e31 : I 160 31 = nI lim := by rw [f.2 31 (by decide)]; exact c4
  have ek : (nI (q :: S).length : Int32) - 1 = nI S.length := by
    rw [List.length_cons, show (1 : Int32) = nI 1 from rfl, pk_sub (by omega)]
    exact nIe (by omega)
  have hl : S.length < 90 := by rw [List.length_cons] at hS; omega
  have hwd := pS_w hm.2.1 (i := 11) (by decide) (x := 7237492) rfl
  have e33 := hm.2.2.2.2.1
  have e166 := hm.2.2.2.2.2.2
  have w7 : (nI w = 7) ↔ w = 7 := nI_eq (b := 7) (by omega) (by decide)
  -- from 91 on: no not
  have b91 : ∀ h : Nat, h = uH (tK T n e) → ¬ ((eTop (q :: S) ≤ 3 ∨ 7 ≤ eTop (q :: S)) ∧ tK T n e = 267) → gw_X12_unit (d + 1) (fun v I' L' P' nx' => nx' = 205 ∧ ∃ r', v = some (.int r') ∧ K r' I' L' P') 91 [some (.ref 160), none, some (.int 0), some (.int (nI h)), none, none] [.int (bP (uOp h))] I L P := by
    intro h eh hn
    have hh : h < 128 := by rw [eh]; exact uH_lt _
    unfold uStep at kk
    rw [if_neg hn, ← eh] at kk
    have h0 : nI h = 0 ↔ h = 0 := nI_zero (by omega)
    refine g_X12_unit_91 hP (by omega) ⟨fun z => absurd rfl z, fun _ => ⟨fun z => ?_, fun z => ⟨by rw [e30]; exact nx_in c2 (by decide), fun z2 => ?_, fun z2 => ?_⟩⟩⟩
    · rw [h0] at z
      rw [if_pos (Or.inl z)] at kk
      exact lp_X12_unit_135 hP (by omega) hm kk
    · rw [e30, nI_cl (by omega), e166, e31, nI_eq (by omega) (by omega)] at z2
      rw [if_pos (Or.inr (Or.inl z2))] at kk
      exact lp_X12_unit_135 hP (by omega) hm kk
    · rw [h0] at z
      rw [e30, nI_cl (by omega), e166, e31, nI_eq (by omega) (by omega)] at z2
      have go : ¬ (uOp h ∧ w = 7) → gw_X12_unit (d + 1) (fun v I' L' P' nx' => nx' = 205 ∧ ∃ r', v = some (.int r') ∧ K r' I' L' P') 139 [some (.ref 160), none, some (.int 0), some (.int (nI h)), some (.int (bP (uOp h))), none] [] I L P := by
        intro hx
        rw [if_neg (fun z' => z'.elim z (fun z' => z'.elim z2 hx))] at kk
        exact lp_X12_unit_139 hP hC' hS (by omega) (hc (by omega)) hh (by omega) (by omega) eh hm kk
      refine g_X12_unit_117 hP (by omega) ⟨fun z3 => absurd rfl z3, fun _ => ⟨fun z3 => go (fun y => bP_0.mp z3 y.1), fun z3 => ⟨fun z4 => go (fun y => ?_), fun z4 => ?_⟩⟩⟩
      · rw [e33, w7] at z4; exact z4 y.2
      · rw [e33, w7] at z4
        rw [if_pos (Or.inr (Or.inr ⟨bP_n.mp z3, z4⟩))] at kk
        exact lp_X12_unit_135 hP (by omega) hm kk
  have n91 : ∀ (h : Nat) (x4 : Int32), h = uH (tK T n e) → ((eTop (q :: S) ≤ 3 ∨ 7 ≤ eTop (q :: S)) ∧ tK T n e = 267) → gw_X12_unit (d + 1) (fun v I' L' P' nx' => nx' = 205 ∧ ∃ r', v = some (.int r') ∧ K r' I' L' P') 91 [some (.ref 160), none, some (.int 1), some (.int (nI h)), none, none] [.int x4] I L P := by
    intro h x4 eh hn
    have hh : h < 128 := by rw [eh]; exact uH_lt _
    unfold uStep at kk
    rw [if_pos hn] at kk
    refine g_X12_unit_91 hP (by omega) ⟨fun _ => g_X12_unit_117 hP (by omega) ⟨fun _ => ⟨fun z => ?_, fun z => ?_⟩, fun z => absurd z (by decide)⟩, fun z => absurd z (by decide)⟩
    · rw [e33, w7] at z
      rw [if_neg z] at kk
      exact lp_X12_unit_139n hP hC' hS (by omega) hh (by omega) (by omega) hm kk
    · rw [e33, w7] at z
      rw [if_pos z] at kk
      exact lp_X12_unit_135 hP (by omega) hm kk
  have b56 : ∀ t : Int32, t = bP ((eTop (q :: S) ≤ 3 ∨ 7 ≤ eTop (q :: S)) ∧ tK T n e = 267) → gw_X12_unit (d + 1) (fun v I' L' P' nx' => nx' = 205 ∧ ∃ r', v = some (.int r') ∧ K r' I' L' P') 56 [some (.ref 160), none, none, none, none, none] [.int t] I L P := by
    intro t et
    have hh : uH (tK T n e) < 128 := uH_lt _
    have both : ∀ y : Int32, y = bP (uOp (uH (tK T n e))) → gw_X12_unit (d + 1) (fun v I' L' P' nx' => nx' = 205 ∧ ∃ r', v = some (.int r') ∧ K r' I' L' P') 91 [some (.ref 160), none, some (.int t), some (.int (nI (uH (tK T n e)))), none, none] [.int y] I L P := by
      intro y ey
      rw [et, ey]
      by_cases hn : (eTop (q :: S) ≤ 3 ∨ 7 ≤ eTop (q :: S)) ∧ tK T n e = 267
      · rw [bP_t hn]; exact n91 _ _ rfl hn
      · rw [bP_f hn]; exact b91 _ rfl hn
    have d1 : nI (uH (tK T n e)) = 40 ↔ uH (tK T n e) = 40 := nI_eq (b := 40) (by omega) (by decide)
    have d2 : nI (uH (tK T n e)) = 107 ↔ uH (tK T n e) = 107 := nI_eq (b := 107) (by omega) (by decide)
    have d3 : nI (uH (tK T n e)) = 97 ↔ uH (tK T n e) = 97 := nI_eq (b := 97) (by omega) (by decide)
    have d4 : nI (uH (tK T n e)) = 99 ↔ uH (tK T n e) = 99 := nI_eq (b := 99) (by omega) (by decide)
    refine g_X12_unit_56 hP (by omega) (sp_X12_unitHere hP hm.2.1 (by omega) ?_)
    rw [d1, d2, d3, d4]
    refine ⟨fun z => both 1 (bP_t (Or.inl z)).symm, fun z1 => ⟨fun z => both 1 (bP_t (Or.inr (Or.inl z))).symm, fun z2 => ⟨fun z => both 1 (bP_t (Or.inr (Or.inr (Or.inl z)))).symm, fun z3 => ⟨fun z4 => both 0 (bP_f ?_).symm, fun z => both 1 (bP_t (Or.inr (Or.inr (Or.inr z)))).symm⟩⟩⟩⟩
    rintro (y | y | y | y)
    · exact z1 y
    · exact z2 y
    · exact z3 y
    · exact z4 y
  have e177 : I 177 (I 160 34 - 1).toNatClampNeg = nI q.1 := by
    rw [hm.2.2.2.1.1, ek, nI_cl (by omega)]; exact hm.2.2.2.1.2.1.1
  have b36 : ∀ t : Int32, t = bP (eTop (q :: S) ≤ 3 ∨ 7 ≤ eTop (q :: S)) → gw_X12_unit (d + 1) (fun v I' L' P' nx' => nx' = 205 ∧ ∃ r', v = some (.int r') ∧ K r' I' L' P') 36 [some (.ref 160), none, none, none, none, none] [.int t] I L P := by
    intro t et
    refine g_X12_unit_36 hP (by omega) ⟨fun z => b56 0 ?_, fun z => ⟨fun z2 => b56 0 ?_, fun z2 => b56 1 ?_⟩⟩
    · rw [et, bP_0] at z; exact (bP_f (fun y => z y.1)).symm
    · rw [bP_c hwd, bP_0] at z2; exact (bP_f (fun y => z2 y.2)).symm
    · rw [bP_c hwd, bP_n] at z2; rw [et, bP_n] at z; exact (bP_t ⟨z, z2⟩).symm
  have t3 : nI q.1 ≤ 3 ↔ q.1 ≤ 3 := nI_leI (b := 3) (by omega) (by decide)
  have t7 : nI q.1 < 7 ↔ q.1 < 7 := nI_ltI (b := 7) (by omega) (by decide)
  refine g_X12_unit hP (by omega) ⟨by rw [hm.2.2.2.1.1, ek]; exact nx_in hl (by decide), ?_⟩
  rw [e177, t3, t7]
  refine ⟨fun z => b36 1 (bP_t (Or.inl z)).symm, fun z => ⟨fun z2 => b36 0 (bP_f ?_).symm, fun z2 => b36 1 (bP_t (Or.inr (by show 7 ≤ q.1; omega))).symm⟩⟩
  rintro (y | y)
  · exact z y
  · have y : 7 ≤ q.1 := y
    omega
end UNIT
