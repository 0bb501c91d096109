/-! ===== the model: a night of all that may be ===== -/
theorem fGs_lt {I : zI} (h : MB I) (pa : Nat → Int32) (gn w : Nat) : fGs I pa gn w < 256 := Nat.lt_of_lt_of_le (bset_lt _ _) (pw8 h.2.1)
/-- what has been seen so far, and who is gone, in each world; inn are those that the saying leaves -/
def fE0 (inn : Nat → Prop) (v _w : Nat) : Prop := inn v
noncomputable def fGe (I : zI) (inn : Nat → Prop) (E : Nat → Nat → Prop) (ga : Nat → Nat) (w : Nat) : Nat :=
  @ite _ (inn w) (Classical.propDecidable _) (bset (sGo (vN I) (fun v => E v w) (fLk I) (ga w) (vSty I) (vOwn I) w) (vNp I)) 0
def fE1 (I : zI) (inn : Nat → Prop) (E : Nat → Nat → Prop) (ga : Nat → Nat) (v w : Nat) : Prop := E v w ∧ fGe I inn E ga v = fGe I inn E ga w
noncomputable def fG1 (I : zI) (inn : Nat → Prop) (E : Nat → Nat → Prop) (ga : Nat → Nat) (w : Nat) : Nat := ga w ||| fGe I inn E ga w
theorem fGe_lt {I : zI} (h : MB I) (inn : Nat → Prop) (E : Nat → Nat → Prop) (ga : Nat → Nat) (w : Nat) : fGe I inn E ga w < 256 := by
  unfold fGe
  by_cases q : inn w
  · rw [if_pos q]; exact Nat.lt_of_lt_of_le (bset_lt _ _) (pw8 h.2.1)
  · rw [if_neg q]; decide
/-- how many sights -/
def vNg (I : zI) : Nat := (I 160 59).toNatClampNeg
def MH (I : zI) : Prop := vNg I ≤ 20 ∧ I 160 59 = nI (vNg I) ∧ ∀ s, s < vNg I → (∃ p, p < 8 ∧ I 189 s = nI p) ∧ (I 197 s = 0 ∨ I 197 s = 1)
/-- the sight s speaks of that night and counts at k -/
def fRel (I : zI) (night k : Int32) (s : Nat) : Prop := I 190 s = night ∧ ¬ k < I 191 s ∧ (I 192 s < 0 ∨ ¬ I 192 s ≤ k)
/-- those that go, as the sight says -/
def fOk (I : zI) (night k : Int32) (ge : Nat) (s : Nat) : Prop := fRel I night k s → (ge.testBit (I 189 s).toNatClampNeg = true ↔ I 197 s = 1)
abbrev fC : List Nat := [193, 194, 195, 196, 198]
abbrev fD : List Nat := [183, 184, 185, 186, 187, 193, 194, 195, 196, 198]
def fSt (I0 I : zI) (inn : Nat → Prop) (E : Nat → Nat → Prop) (ga : Nat → Nat) (fi : Nat → Prop) : Prop :=
  zFr fD [46, 61] I0 I ∧ (∀ w, w < vN I0 → (0 ≤ I 193 w ↔ inn w)) ∧ (∀ v w, v < vN I0 → w < vN I0 → inn w → (I 193 v = I 193 w ↔ E v w)) ∧ (∀ w, w < vN I0 → I 194 w = nI (ga w) ∧ ga w < 256) ∧ ∀ w, w < vN I0 → I 198 w = bP (fi w)
abbrev gw_X12_nightOfAll (d : Nat) (Q : zQt) (pc : Nat) (lv : zV) (st : List Value) (I : zI) (L : zL) (P : zP) : Prop := zW zm_X12_nightOfAll (zRm d 0 0) 0 0 Q pc lv st I L P 205 0 0
abbrev v_X12_nightOfAll_169 (d : Nat) (Q : zQt) (p1 : Int32) (p2 : Int32) (x3 : Int32) (x4 : Int32) (I : zI) (L : zL) (P : zP) : Prop :=
  (((I 160 59) ≤ x4 →
    gw_X12_nightOfAll (d + 1) Q 131 [some (.ref 160), some (.int p1), some (.int p2), some (.int (x3 + 1)), none] [] I L P
  ) ∧ (¬ (I 160 59) ≤ x4 →
    vp_in x4 20 ∧
    ((¬ (I 190 x4.toNatClampNeg) = p1 →
      gw_X12_nightOfAll (d + 1) Q 169 [some (.ref 160), some (.int p1), some (.int p2), some (.int x3), some (.int (x4 + 1))] [] I L P
    ) ∧ ((I 190 x4.toNatClampNeg) = p1 →
      ((p2 < (I 191 x4.toNatClampNeg) →
        gw_X12_nightOfAll (d + 1) Q 169 [some (.ref 160), some (.int p1), some (.int p2), some (.int x3), some (.int (x4 + 1))] [] I L P
      ) ∧ (¬ p2 < (I 191 x4.toNatClampNeg) →
        (((I 192 x4.toNatClampNeg) < 0 →
          vp_in x3 64 ∧
          ((¬ (((I 195 x3.toNatClampNeg) >>> ((I 189 x4.toNatClampNeg) &&& 31) : Int32) &&& 1 : Int32) = 1 →
            ((0 = (I 197 x4.toNatClampNeg) →
              gw_X12_nightOfAll (d + 1) Q 169 [some (.ref 160), some (.int p1), some (.int p2), some (.int x3), some (.int (x4 + 1))] [] I L P
            ) ∧ (¬ 0 = (I 197 x4.toNatClampNeg) →
              ∀ I48 : zI, I48 = zuI I 198 x3.toNatClampNeg 0 →
              gw_X12_nightOfAll (d + 1) Q 169 [some (.ref 160), some (.int p1), some (.int p2), some (.int x3), some (.int (x4 + 1))] [] I48 L P
            ))
          ) ∧ ((((I 195 x3.toNatClampNeg) >>> ((I 189 x4.toNatClampNeg) &&& 31) : Int32) &&& 1 : Int32) = 1 →
            ((1 = (I 197 x4.toNatClampNeg) →
              gw_X12_nightOfAll (d + 1) Q 169 [some (.ref 160), some (.int p1), some (.int p2), some (.int x3), some (.int (x4 + 1))] [] I L P
            ) ∧ (¬ 1 = (I 197 x4.toNatClampNeg) →
              ∀ I51 : zI, I51 = zuI I 198 x3.toNatClampNeg 0 →
              gw_X12_nightOfAll (d + 1) Q 169 [some (.ref 160), some (.int p1), some (.int p2), some (.int x3), some (.int (x4 + 1))] [] I51 L P
            ))
          ))
        ) ∧ (¬ (I 192 x4.toNatClampNeg) < 0 →
          (((I 192 x4.toNatClampNeg) ≤ p2 →
            gw_X12_nightOfAll (d + 1) Q 169 [some (.ref 160), some (.int p1), some (.int p2), some (.int x3), some (.int (x4 + 1))] [] I L P
          ) ∧ (¬ (I 192 x4.toNatClampNeg) ≤ p2 →
            vp_in x3 64 ∧
            ((¬ (((I 195 x3.toNatClampNeg) >>> ((I 189 x4.toNatClampNeg) &&& 31) : Int32) &&& 1 : Int32) = 1 →
              ((0 = (I 197 x4.toNatClampNeg) →
                gw_X12_nightOfAll (d + 1) Q 169 [some (.ref 160), some (.int p1), some (.int p2), some (.int x3), some (.int (x4 + 1))] [] I L P
              ) ∧ (¬ 0 = (I 197 x4.toNatClampNeg) →
                ∀ I57 : zI, I57 = zuI I 198 x3.toNatClampNeg 0 →
                gw_X12_nightOfAll (d + 1) Q 169 [some (.ref 160), some (.int p1), some (.int p2), some (.int x3), some (.int (x4 + 1))] [] I57 L P
              ))
            ) ∧ ((((I 195 x3.toNatClampNeg) >>> ((I 189 x4.toNatClampNeg) &&& 31) : Int32) &&& 1 : Int32) = 1 →
              ((1 = (I 197 x4.toNatClampNeg) →
                gw_X12_nightOfAll (d + 1) Q 169 [some (.ref 160), some (.int p1), some (.int p2), some (.int x3), some (.int (x4 + 1))] [] I L P
              ) ∧ (¬ 1 = (I 197 x4.toNatClampNeg) →
                ∀ I60 : zI, I60 = zuI I 198 x3.toNatClampNeg 0 →
                gw_X12_nightOfAll (d + 1) Q 169 [some (.ref 160), some (.int p1), some (.int p2), some (.int x3), some (.int (x4 + 1))] [] I60 L P
              ))
            ))
          ))
        ))
      ))
    ))
  ))
set_option maxRecDepth 20000 in
theorem g_X12_nightOfAll_169 {d : Nat} {Q : zQt} {p1 : Int32} {p2 : Int32} {x3 : Int32} {x4 : Int32} {I : zI} {L : zL} {P : zP} (hP : zPk P) (hd : 1 ≤ d) (hv : v_X12_nightOfAll_169 d Q p1 p2 x3 x4 I L P) : gw_X12_nightOfAll (d + 1) Q 169 [some (.ref 160), some (.int p1), some (.int p2), some (.int x3), some (.int x4)] [] I L P := by
  unfold v_X12_nightOfAll_169 at hv
  refine z_iload dX12_nightOfAll_169 rfl ?_
  refine z_aload_n dX12_nightOfAll_171 rfl ?_
  refine z_getI dX12_nightOfAll_172 zf_X12_267 zn_160 zo_160 (fun _ _ _ _ _ => rfl) ?_
  refine z_icmp_ge (tgt := 269) dX12_nightOfAll_175 (by decide) (fun q39 => ?_) (fun q39 => ?_)
  · have hv := hv.1 q39
    refine z_iinc (v2 := x3 + 1) (lv2 := [some (.ref 160), some (.int p1), some (.int p2), some (.int (x3 + 1)), some (.int x4)]) dX12_nightOfAll_269 rfl (by rfl) (by decide) rfl rfl ?_
    refine z_goto (tgt := 131) dX12_nightOfAll_272 (by decide) ?_
    exact z_sub (by exact ⟨rfl, ⟨rfl, ⟨rfl, ⟨rfl, trivial⟩⟩⟩⟩) hv
  · have hv := hv.2 q39
    refine z_aload_n dX12_nightOfAll_178 rfl ?_
    refine z_getP dX12_nightOfAll_179 zf_X12_104 zn_160 zo_160 (fun _ _ _ _ _ => rfl) (hP 160 50 190 zp_160_50) ?_
    refine z_iload dX12_nightOfAll_182 rfl ?_
    obtain ⟨h40, hv⟩ := hv
    refine z_iaload dX12_nightOfAll_184 zn_190 zh_190 h40 ?_
    refine z_iload_n dX12_nightOfAll_185 rfl ?_
    refine z_icmp_ne (tgt := 263) dX12_nightOfAll_186 (by decide) (fun q41 => ?_) (fun q41 => ?_)
    · have hv := hv.1 q41
      refine z_iinc (v2 := x4 + 1) (lv2 := [some (.ref 160), some (.int p1), some (.int p2), some (.int x3), some (.int (x4 + 1))]) dX12_nightOfAll_263 rfl (by rfl) (by decide) rfl rfl ?_
      refine z_goto (tgt := 169) dX12_nightOfAll_266 (by decide) ?_
      exact hv
    · have hv := hv.2 q41
      refine z_aload_n dX12_nightOfAll_189 rfl ?_
      refine z_getP dX12_nightOfAll_190 zf_X12_107 zn_160 zo_160 (fun _ _ _ _ _ => rfl) (hP 160 51 191 zp_160_51) ?_
      refine z_iload dX12_nightOfAll_193 rfl ?_
      refine z_iaload dX12_nightOfAll_195 zn_191 zh_191 h40 ?_
      refine z_iload_n dX12_nightOfAll_196 rfl ?_
      refine z_icmp_gt (tgt := 263) dX12_nightOfAll_197 (by decide) (fun q42 => ?_) (fun q42 => ?_)
      · have hv := hv.1 q42
        refine z_iinc (v2 := x4 + 1) (lv2 := [some (.ref 160), some (.int p1), some (.int p2), some (.int x3), some (.int (x4 + 1))]) dX12_nightOfAll_263 rfl (by rfl) (by decide) rfl rfl ?_
        refine z_goto (tgt := 169) dX12_nightOfAll_266 (by decide) ?_
        exact hv
      · have hv := hv.2 q42
        refine z_aload_n dX12_nightOfAll_200 rfl ?_
        refine z_getP dX12_nightOfAll_201 zf_X12_110 zn_160 zo_160 (fun _ _ _ _ _ => rfl) (hP 160 52 192 zp_160_52) ?_
        refine z_iload dX12_nightOfAll_204 rfl ?_
        refine z_iaload dX12_nightOfAll_206 zn_192 zh_192 h40 ?_
        refine z_if_lt (tgt := 221) dX12_nightOfAll_207 (by decide) (fun q43 => ?_) (fun q43 => ?_)
        · have hv := hv.1 q43
          refine z_aload_n dX12_nightOfAll_221 rfl ?_
          refine z_getP dX12_nightOfAll_222 zf_X12_119 zn_160 zo_160 (fun _ _ _ _ _ => rfl) (hP 160 55 195 zp_160_55) ?_
          refine z_iload_n dX12_nightOfAll_225 rfl ?_
          obtain ⟨h44, hv⟩ := hv
          refine z_iaload dX12_nightOfAll_226 zn_195 zh_195 h44 ?_
          refine z_aload_n dX12_nightOfAll_227 rfl ?_
          refine z_getP dX12_nightOfAll_228 zf_X12_101 zn_160 zo_160 (fun _ _ _ _ _ => rfl) (hP 160 49 189 zp_160_49) ?_
          refine z_iload dX12_nightOfAll_231 rfl ?_
          refine z_iaload dX12_nightOfAll_233 zn_189 zh_189 h40 ?_
          refine z_ishr dX12_nightOfAll_234 ?_
          refine z_iconst (v := 1) dX12_nightOfAll_235 (by decide) ?_
          refine z_iand dX12_nightOfAll_236 ?_
          refine z_iconst (v := 1) dX12_nightOfAll_237 (by decide) ?_
          refine z_icmp_ne (tgt := 245) dX12_nightOfAll_238 (by decide) (fun q45 => ?_) (fun q45 => ?_)
          · have hv := hv.1 q45
            refine z_iconst (v := 0) dX12_nightOfAll_245 (by decide) ?_
            refine z_aload_n dX12_nightOfAll_246 rfl ?_
            refine z_getP dX12_nightOfAll_247 zf_X12_125 zn_160 zo_160 (fun _ _ _ _ _ => rfl) (hP 160 57 197 zp_160_57) ?_
            refine z_iload dX12_nightOfAll_250 rfl ?_
            refine z_zaload dX12_nightOfAll_252 zn_197 zh_197 h40 ?_
            refine z_icmp_eq (tgt := 263) dX12_nightOfAll_253 (by decide) (fun q46 => ?_) (fun q46 => ?_)
            · have hv := hv.1 q46
              refine z_iinc (v2 := x4 + 1) (lv2 := [some (.ref 160), some (.int p1), some (.int p2), some (.int x3), some (.int (x4 + 1))]) dX12_nightOfAll_263 rfl (by rfl) (by decide) rfl rfl ?_
              refine z_goto (tgt := 169) dX12_nightOfAll_266 (by decide) ?_
              exact hv
            · have hv := hv.2 q46
              refine z_aload_n dX12_nightOfAll_256 rfl ?_
              refine z_getP dX12_nightOfAll_257 zf_X12_128 zn_160 zo_160 (fun _ _ _ _ _ => rfl) (hP 160 58 198 zp_160_58) ?_
              refine z_iload_n dX12_nightOfAll_260 rfl ?_
              refine z_iconst (v := 0) dX12_nightOfAll_261 (by decide) ?_
              refine z_zastore (w := 0) dX12_nightOfAll_262 zn_198 zh_198 h44 (by decide) (z_nmI (fun I48 e47 => ?_))
              have hv := hv I48 e47
              refine z_iinc (v2 := x4 + 1) (lv2 := [some (.ref 160), some (.int p1), some (.int p2), some (.int x3), some (.int (x4 + 1))]) dX12_nightOfAll_263 rfl (by rfl) (by decide) rfl rfl ?_
              refine z_goto (tgt := 169) dX12_nightOfAll_266 (by decide) ?_
              exact hv
          · have hv := hv.2 q45
            refine z_iconst (v := 1) dX12_nightOfAll_241 (by decide) ?_
            refine z_goto (tgt := 246) dX12_nightOfAll_242 (by decide) ?_
            refine z_aload_n dX12_nightOfAll_246 rfl ?_
            refine z_getP dX12_nightOfAll_247 zf_X12_125 zn_160 zo_160 (fun _ _ _ _ _ => rfl) (hP 160 57 197 zp_160_57) ?_
            refine z_iload dX12_nightOfAll_250 rfl ?_
            refine z_zaload dX12_nightOfAll_252 zn_197 zh_197 h40 ?_
            refine z_icmp_eq (tgt := 263) dX12_nightOfAll_253 (by decide) (fun q49 => ?_) (fun q49 => ?_)
            · have hv := hv.1 q49
              refine z_iinc (v2 := x4 + 1) (lv2 := [some (.ref 160), some (.int p1), some (.int p2), some (.int x3), some (.int (x4 + 1))]) dX12_nightOfAll_263 rfl (by rfl) (by decide) rfl rfl ?_
              refine z_goto (tgt := 169) dX12_nightOfAll_266 (by decide) ?_
              exact hv
            · have hv := hv.2 q49
              refine z_aload_n dX12_nightOfAll_256 rfl ?_
              refine z_getP dX12_nightOfAll_257 zf_X12_128 zn_160 zo_160 (fun _ _ _ _ _ => rfl) (hP 160 58 198 zp_160_58) ?_
              refine z_iload_n dX12_nightOfAll_260 rfl ?_
              refine z_iconst (v := 0) dX12_nightOfAll_261 (by decide) ?_
              refine z_zastore (w := 0) dX12_nightOfAll_262 zn_198 zh_198 h44 (by decide) (z_nmI (fun I51 e50 => ?_))
              have hv := hv I51 e50
              refine z_iinc (v2 := x4 + 1) (lv2 := [some (.ref 160), some (.int p1), some (.int p2), some (.int x3), some (.int (x4 + 1))]) dX12_nightOfAll_263 rfl (by rfl) (by decide) rfl rfl ?_
              refine z_goto (tgt := 169) dX12_nightOfAll_266 (by decide) ?_
              exact hv
        · have hv := hv.2 q43
          refine z_aload_n dX12_nightOfAll_210 rfl ?_
          refine z_getP dX12_nightOfAll_211 zf_X12_110 zn_160 zo_160 (fun _ _ _ _ _ => rfl) (hP 160 52 192 zp_160_52) ?_
          refine z_iload dX12_nightOfAll_214 rfl ?_
          refine z_iaload dX12_nightOfAll_216 zn_192 zh_192 h40 ?_
          refine z_iload_n dX12_nightOfAll_217 rfl ?_
          refine z_icmp_le (tgt := 263) dX12_nightOfAll_218 (by decide) (fun q52 => ?_) (fun q52 => ?_)
          · have hv := hv.1 q52
            refine z_iinc (v2 := x4 + 1) (lv2 := [some (.ref 160), some (.int p1), some (.int p2), some (.int x3), some (.int (x4 + 1))]) dX12_nightOfAll_263 rfl (by rfl) (by decide) rfl rfl ?_
            refine z_goto (tgt := 169) dX12_nightOfAll_266 (by decide) ?_
            exact hv
          · have hv := hv.2 q52
            refine z_aload_n dX12_nightOfAll_221 rfl ?_
            refine z_getP dX12_nightOfAll_222 zf_X12_119 zn_160 zo_160 (fun _ _ _ _ _ => rfl) (hP 160 55 195 zp_160_55) ?_
            refine z_iload_n dX12_nightOfAll_225 rfl ?_
            obtain ⟨h53, hv⟩ := hv
            refine z_iaload dX12_nightOfAll_226 zn_195 zh_195 h53 ?_
            refine z_aload_n dX12_nightOfAll_227 rfl ?_
            refine z_getP dX12_nightOfAll_228 zf_X12_101 zn_160 zo_160 (fun _ _ _ _ _ => rfl) (hP 160 49 189 zp_160_49) ?_
            refine z_iload dX12_nightOfAll_231 rfl ?_
            refine z_iaload dX12_nightOfAll_233 zn_189 zh_189 h40 ?_
            refine z_ishr dX12_nightOfAll_234 ?_
            refine z_iconst (v := 1) dX12_nightOfAll_235 (by decide) ?_
            refine z_iand dX12_nightOfAll_236 ?_
            refine z_iconst (v := 1) dX12_nightOfAll_237 (by decide) ?_
            refine z_icmp_ne (tgt := 245) dX12_nightOfAll_238 (by decide) (fun q54 => ?_) (fun q54 => ?_)
            · have hv := hv.1 q54
              refine z_iconst (v := 0) dX12_nightOfAll_245 (by decide) ?_
              refine z_aload_n dX12_nightOfAll_246 rfl ?_
              refine z_getP dX12_nightOfAll_247 zf_X12_125 zn_160 zo_160 (fun _ _ _ _ _ => rfl) (hP 160 57 197 zp_160_57) ?_
              refine z_iload dX12_nightOfAll_250 rfl ?_
              refine z_zaload dX12_nightOfAll_252 zn_197 zh_197 h40 ?_
              refine z_icmp_eq (tgt := 263) dX12_nightOfAll_253 (by decide) (fun q55 => ?_) (fun q55 => ?_)
              · have hv := hv.1 q55
                refine z_iinc (v2 := x4 + 1) (lv2 := [some (.ref 160), some (.int p1), some (.int p2), some (.int x3), some (.int (x4 + 1))]) dX12_nightOfAll_263 rfl (by rfl) (by decide) rfl rfl ?_
                refine z_goto (tgt := 169) dX12_nightOfAll_266 (by decide) ?_
                exact hv
              · have hv := hv.2 q55
                refine z_aload_n dX12_nightOfAll_256 rfl ?_
                refine z_getP dX12_nightOfAll_257 zf_X12_128 zn_160 zo_160 (fun _ _ _ _ _ => rfl) (hP 160 58 198 zp_160_58) ?_
                refine z_iload_n dX12_nightOfAll_260 rfl ?_
                refine z_iconst (v := 0) dX12_nightOfAll_261 (by decide) ?_
                refine z_zastore (w := 0) dX12_nightOfAll_262 zn_198 zh_198 h53 (by decide) (z_nmI (fun I57 e56 => ?_))
                have hv := hv I57 e56
                refine z_iinc (v2 := x4 + 1) (lv2 := [some (.ref 160), some (.int p1), some (.int p2), some (.int x3), some (.int (x4 + 1))]) dX12_nightOfAll_263 rfl (by rfl) (by decide) rfl rfl ?_
                refine z_goto (tgt := 169) dX12_nightOfAll_266 (by decide) ?_
                exact hv
            · have hv := hv.2 q54
              refine z_iconst (v := 1) dX12_nightOfAll_241 (by decide) ?_
              refine z_goto (tgt := 246) dX12_nightOfAll_242 (by decide) ?_
              refine z_aload_n dX12_nightOfAll_246 rfl ?_
              refine z_getP dX12_nightOfAll_247 zf_X12_125 zn_160 zo_160 (fun _ _ _ _ _ => rfl) (hP 160 57 197 zp_160_57) ?_
              refine z_iload dX12_nightOfAll_250 rfl ?_
              refine z_zaload dX12_nightOfAll_252 zn_197 zh_197 h40 ?_
              refine z_icmp_eq (tgt := 263) dX12_nightOfAll_253 (by decide) (fun q58 => ?_) (fun q58 => ?_)
              · have hv := hv.1 q58
                refine z_iinc (v2 := x4 + 1) (lv2 := [some (.ref 160), some (.int p1), some (.int p2), some (.int x3), some (.int (x4 + 1))]) dX12_nightOfAll_263 rfl (by rfl) (by decide) rfl rfl ?_
                refine z_goto (tgt := 169) dX12_nightOfAll_266 (by decide) ?_
                exact hv
              · have hv := hv.2 q58
                refine z_aload_n dX12_nightOfAll_256 rfl ?_
                refine z_getP dX12_nightOfAll_257 zf_X12_128 zn_160 zo_160 (fun _ _ _ _ _ => rfl) (hP 160 58 198 zp_160_58) ?_
                refine z_iload_n dX12_nightOfAll_260 rfl ?_
                refine z_iconst (v := 0) dX12_nightOfAll_261 (by decide) ?_
                refine z_zastore (w := 0) dX12_nightOfAll_262 zn_198 zh_198 h53 (by decide) (z_nmI (fun I60 e59 => ?_))
                have hv := hv I60 e59
                refine z_iinc (v2 := x4 + 1) (lv2 := [some (.ref 160), some (.int p1), some (.int p2), some (.int x3), some (.int (x4 + 1))]) dX12_nightOfAll_263 rfl (by rfl) (by decide) rfl rfl ?_
                refine z_goto (tgt := 169) dX12_nightOfAll_266 (by decide) ?_
                exact hv
abbrev v_X12_nightOfAll_131 (d : Nat) (Q : zQt) (p1 : Int32) (p2 : Int32) (x3 : Int32) (I : zI) (L : zL) (P : zP) : Prop :=
  MB I ∧
  (((nI (vN I)) ≤ x3 →
    Q none I L P 205
  ) ∧ (¬ (nI (vN I)) ≤ x3 →
    vp_in x3 64 ∧
    ∀ I30 : zI, I30 = zuI I 193 x3.toNatClampNeg (I 196 x3.toNatClampNeg) →
    ∀ I32 : zI, I32 = zuI I30 194 x3.toNatClampNeg ((I30 194 x3.toNatClampNeg) ||| (I30 195 x3.toNatClampNeg) : Int32) →
    gw_X12_nightOfAll (d + 1) Q 169 [some (.ref 160), some (.int p1), some (.int p2), some (.int x3), some (.int 0)] [] I32 L P
  ))
set_option maxRecDepth 20000 in
theorem g_X12_nightOfAll_131 {d : Nat} {Q : zQt} {p1 : Int32} {p2 : Int32} {x3 : Int32} {I : zI} {L : zL} {P : zP} (hP : zPk P) (hd : 1 ≤ d) (hv : v_X12_nightOfAll_131 d Q p1 p2 x3 I L P) : gw_X12_nightOfAll (d + 1) Q 131 [some (.ref 160), some (.int p1), some (.int p2), some (.int x3), none] [] I L P := by
  unfold v_X12_nightOfAll_131 at hv
  refine z_iload_n dX12_nightOfAll_131 rfl ?_
  refine z_aload_n dX12_nightOfAll_132 rfl ?_
  obtain ⟨h24, hv⟩ := hv
  refine z_callV (As := []) (st := [.int x3]) dX12_nightOfAll_133 zl_X12_346 zv_X12_worldMany (by decide) rfl zn_160 zo_160 rfl rfl (Nat.le_of_ble_eq_true rfl) ⟨Nat.le_refl _, Nat.le_refl _⟩ ⟨Nat.le_refl _, Nat.le_refl _⟩ (sp_X12_worldMany hP h24 (by omega) (K := fun r I' L' P' => nI (vN I) = r ∧ I = I' ∧ L = L' ∧ P = P') ⟨rfl, rfl, rfl, rfl⟩) (fun v1 I2 L2 P2 nx1 q26 => ?_)
  obtain ⟨rfl, r25, rfl, rfl, rfl, rfl, rfl⟩ := q26
  refine z_icmp_ge (tgt := 275) dX12_nightOfAll_136 (by decide) (fun q27 => ?_) (fun q27 => ?_)
  · have hv := hv.1 q27
    exact z_return dX12_nightOfAll_275 rfl (Nat.le_refl _) (Nat.le_refl _) hv
  · have hv := hv.2 q27
    refine z_aload_n dX12_nightOfAll_139 rfl ?_
    refine z_getP dX12_nightOfAll_140 zf_X12_113 zn_160 zo_160 (fun _ _ _ _ _ => rfl) (hP 160 53 193 zp_160_53) ?_
    refine z_iload_n dX12_nightOfAll_143 rfl ?_
    refine z_aload_n dX12_nightOfAll_144 rfl ?_
    refine z_getP dX12_nightOfAll_145 zf_X12_122 zn_160 zo_160 (fun _ _ _ _ _ => rfl) (hP 160 56 196 zp_160_56) ?_
    refine z_iload_n dX12_nightOfAll_148 rfl ?_
    obtain ⟨h28, hv⟩ := hv
    refine z_iaload dX12_nightOfAll_149 zn_196 zh_196 h28 ?_
    refine z_iastore dX12_nightOfAll_150 zn_193 zh_193 h28 (z_nmI (fun I30 e29 => ?_))
    have hv := hv I30 e29
    refine z_aload_n dX12_nightOfAll_151 rfl ?_
    refine z_getP dX12_nightOfAll_152 zf_X12_116 zn_160 zo_160 (fun _ _ _ _ _ => rfl) (hP 160 54 194 zp_160_54) ?_
    refine z_iload_n dX12_nightOfAll_155 rfl ?_
    refine z_dup2 dX12_nightOfAll_156 rfl rfl ?_
    refine z_iaload dX12_nightOfAll_157 zn_194 zh_194 h28 ?_
    refine z_aload_n dX12_nightOfAll_158 rfl ?_
    refine z_getP dX12_nightOfAll_159 zf_X12_119 zn_160 zo_160 (fun _ _ _ _ _ => rfl) (hP 160 55 195 zp_160_55) ?_
    refine z_iload_n dX12_nightOfAll_162 rfl ?_
    refine z_iaload dX12_nightOfAll_163 zn_195 zh_195 h28 ?_
    refine z_ior dX12_nightOfAll_164 ?_
    refine z_iastore dX12_nightOfAll_165 zn_194 zh_194 h28 (z_nmI (fun I32 e31 => ?_))
    have hv := hv I32 e31
    refine z_iconst (v := 0) dX12_nightOfAll_166 (by decide) ?_
    refine z_istore (lv2 := [some (.ref 160), some (.int p1), some (.int p2), some (.int x3), some (.int 0)]) dX12_nightOfAll_167 (by decide) rfl rfl ?_
    exact hv
abbrev v_X12_nightOfAll_77 (d : Nat) (Q : zQt) (p1 : Int32) (p2 : Int32) (x3 : Int32) (x4 : Int32) (I : zI) (L : zL) (P : zP) : Prop :=
  vp_in x4 64 ∧
  vp_in x3 64 ∧
  ((¬ (I 193 x4.toNatClampNeg) = (I 193 x3.toNatClampNeg) →
    gw_X12_nightOfAll (d + 1) Q 77 [some (.ref 160), some (.int p1), some (.int p2), some (.int x3), some (.int (x4 + 1))] [] I L P
  ) ∧ ((I 193 x4.toNatClampNeg) = (I 193 x3.toNatClampNeg) →
    (((I 195 x4.toNatClampNeg) = (I 195 x3.toNatClampNeg) →
      ∀ I38 : zI, I38 = zuI I 196 x3.toNatClampNeg x4 →
      gw_X12_nightOfAll (d + 1) Q 42 [some (.ref 160), some (.int p1), some (.int p2), some (.int (x3 + 1)), none] [] I38 L P
    ) ∧ (¬ (I 195 x4.toNatClampNeg) = (I 195 x3.toNatClampNeg) →
      gw_X12_nightOfAll (d + 1) Q 77 [some (.ref 160), some (.int p1), some (.int p2), some (.int x3), some (.int (x4 + 1))] [] I L P
    ))
  ))
set_option maxRecDepth 20000 in
theorem g_X12_nightOfAll_77 {d : Nat} {Q : zQt} {p1 : Int32} {p2 : Int32} {x3 : Int32} {x4 : Int32} {I : zI} {L : zL} {P : zP} (hP : zPk P) (hd : 1 ≤ d) (hv : v_X12_nightOfAll_77 d Q p1 p2 x3 x4 I L P) : gw_X12_nightOfAll (d + 1) Q 77 [some (.ref 160), some (.int p1), some (.int p2), some (.int x3), some (.int x4)] [] I L P := by
  unfold v_X12_nightOfAll_77 at hv
  refine z_aload_n dX12_nightOfAll_77 rfl ?_
  refine z_getP dX12_nightOfAll_78 zf_X12_113 zn_160 zo_160 (fun _ _ _ _ _ => rfl) (hP 160 53 193 zp_160_53) ?_
  refine z_iload dX12_nightOfAll_81 rfl ?_
  obtain ⟨h33, hv⟩ := hv
  refine z_iaload dX12_nightOfAll_83 zn_193 zh_193 h33 ?_
  refine z_aload_n dX12_nightOfAll_84 rfl ?_
  refine z_getP dX12_nightOfAll_85 zf_X12_113 zn_160 zo_160 (fun _ _ _ _ _ => rfl) (hP 160 53 193 zp_160_53) ?_
  refine z_iload_n dX12_nightOfAll_88 rfl ?_
  obtain ⟨h34, hv⟩ := hv
  refine z_iaload dX12_nightOfAll_89 zn_193 zh_193 h34 ?_
  refine z_icmp_ne (tgt := 109) dX12_nightOfAll_90 (by decide) (fun q35 => ?_) (fun q35 => ?_)
  · have hv := hv.1 q35
    refine z_iinc (v2 := x4 + 1) (lv2 := [some (.ref 160), some (.int p1), some (.int p2), some (.int x3), some (.int (x4 + 1))]) dX12_nightOfAll_109 rfl (by rfl) (by decide) rfl rfl ?_
    refine z_goto (tgt := 77) dX12_nightOfAll_112 (by decide) ?_
    exact hv
  · have hv := hv.2 q35
    refine z_aload_n dX12_nightOfAll_93 rfl ?_
    refine z_getP dX12_nightOfAll_94 zf_X12_119 zn_160 zo_160 (fun _ _ _ _ _ => rfl) (hP 160 55 195 zp_160_55) ?_
    refine z_iload dX12_nightOfAll_97 rfl ?_
    refine z_iaload dX12_nightOfAll_99 zn_195 zh_195 h33 ?_
    refine z_aload_n dX12_nightOfAll_100 rfl ?_
    refine z_getP dX12_nightOfAll_101 zf_X12_119 zn_160 zo_160 (fun _ _ _ _ _ => rfl) (hP 160 55 195 zp_160_55) ?_
    refine z_iload_n dX12_nightOfAll_104 rfl ?_
    refine z_iaload dX12_nightOfAll_105 zn_195 zh_195 h34 ?_
    refine z_icmp_eq (tgt := 115) dX12_nightOfAll_106 (by decide) (fun q36 => ?_) (fun q36 => ?_)
    · have hv := hv.1 q36
      refine z_aload_n dX12_nightOfAll_115 rfl ?_
      refine z_getP dX12_nightOfAll_116 zf_X12_122 zn_160 zo_160 (fun _ _ _ _ _ => rfl) (hP 160 56 196 zp_160_56) ?_
      refine z_iload_n dX12_nightOfAll_119 rfl ?_
      refine z_iload dX12_nightOfAll_120 rfl ?_
      refine z_iastore dX12_nightOfAll_122 zn_196 zh_196 h34 (z_nmI (fun I38 e37 => ?_))
      have hv := hv I38 e37
      refine z_iinc (v2 := x3 + 1) (lv2 := [some (.ref 160), some (.int p1), some (.int p2), some (.int (x3 + 1)), some (.int x4)]) dX12_nightOfAll_123 rfl (by rfl) (by decide) rfl rfl ?_
      refine z_goto (tgt := 42) dX12_nightOfAll_126 (by decide) ?_
      exact z_sub (by exact ⟨rfl, ⟨rfl, ⟨rfl, ⟨rfl, trivial⟩⟩⟩⟩) hv
    · have hv := hv.2 q36
      refine z_iinc (v2 := x4 + 1) (lv2 := [some (.ref 160), some (.int p1), some (.int p2), some (.int x3), some (.int (x4 + 1))]) dX12_nightOfAll_109 rfl (by rfl) (by decide) rfl rfl ?_
      refine z_goto (tgt := 77) dX12_nightOfAll_112 (by decide) ?_
      exact hv
abbrev v_X12_nightOfAll_42 (d : Nat) (Q : zQt) (p1 : Int32) (p2 : Int32) (x3 : Int32) (I : zI) (L : zL) (P : zP) : Prop :=
  MB I ∧
  (((nI (vN I)) ≤ x3 →
    gw_X12_nightOfAll (d + 1) Q 131 [some (.ref 160), some (.int p1), some (.int p2), some (.int 0), none] [] I L P
  ) ∧ (¬ (nI (vN I)) ≤ x3 →
    vp_in x3 64 ∧
    ∀ I22 : zI, I22 = zuI I 196 x3.toNatClampNeg (I 193 x3.toNatClampNeg) →
    ((0 ≤ (I22 193 x3.toNatClampNeg) →
      gw_X12_nightOfAll (d + 1) Q 77 [some (.ref 160), some (.int p1), some (.int p2), some (.int x3), some (.int 0)] [] I22 L P
    ) ∧ (¬ 0 ≤ (I22 193 x3.toNatClampNeg) →
      gw_X12_nightOfAll (d + 1) Q 42 [some (.ref 160), some (.int p1), some (.int p2), some (.int (x3 + 1)), none] [] I22 L P
    ))
  ))
set_option maxRecDepth 20000 in
theorem g_X12_nightOfAll_42 {d : Nat} {Q : zQt} {p1 : Int32} {p2 : Int32} {x3 : Int32} {I : zI} {L : zL} {P : zP} (hP : zPk P) (hd : 1 ≤ d) (hv : v_X12_nightOfAll_42 d Q p1 p2 x3 I L P) : gw_X12_nightOfAll (d + 1) Q 42 [some (.ref 160), some (.int p1), some (.int p2), some (.int x3), none] [] I L P := by
  unfold v_X12_nightOfAll_42 at hv
  refine z_iload_n dX12_nightOfAll_42 rfl ?_
  refine z_aload_n dX12_nightOfAll_43 rfl ?_
  obtain ⟨h16, hv⟩ := hv
  refine z_callV (As := []) (st := [.int x3]) dX12_nightOfAll_44 zl_X12_346 zv_X12_worldMany (by decide) rfl zn_160 zo_160 rfl rfl (Nat.le_of_ble_eq_true rfl) ⟨Nat.le_refl _, Nat.le_refl _⟩ ⟨Nat.le_refl _, Nat.le_refl _⟩ (sp_X12_worldMany hP h16 (by omega) (K := fun r I' L' P' => nI (vN I) = r ∧ I = I' ∧ L = L' ∧ P = P') ⟨rfl, rfl, rfl, rfl⟩) (fun v1 I2 L2 P2 nx1 q18 => ?_)
  obtain ⟨rfl, r17, rfl, rfl, rfl, rfl, rfl⟩ := q18
  refine z_icmp_ge (tgt := 129) dX12_nightOfAll_47 (by decide) (fun q19 => ?_) (fun q19 => ?_)
  · have hv := hv.1 q19
    refine z_iconst (v := 0) dX12_nightOfAll_129 (by decide) ?_
    refine z_istore_n (lv2 := [some (.ref 160), some (.int p1), some (.int p2), some (.int 0), none]) dX12_nightOfAll_130 (by decide) rfl rfl ?_
    exact hv
  · have hv := hv.2 q19
    refine z_aload_n dX12_nightOfAll_50 rfl ?_
    refine z_getP dX12_nightOfAll_51 zf_X12_122 zn_160 zo_160 (fun _ _ _ _ _ => rfl) (hP 160 56 196 zp_160_56) ?_
    refine z_iload_n dX12_nightOfAll_54 rfl ?_
    refine z_aload_n dX12_nightOfAll_55 rfl ?_
    refine z_getP dX12_nightOfAll_56 zf_X12_113 zn_160 zo_160 (fun _ _ _ _ _ => rfl) (hP 160 53 193 zp_160_53) ?_
    refine z_iload_n dX12_nightOfAll_59 rfl ?_
    obtain ⟨h20, hv⟩ := hv
    refine z_iaload dX12_nightOfAll_60 zn_193 zh_193 h20 ?_
    refine z_iastore dX12_nightOfAll_61 zn_196 zh_196 h20 (z_nmI (fun I22 e21 => ?_))
    have hv := hv I22 e21
    refine z_aload_n dX12_nightOfAll_62 rfl ?_
    refine z_getP dX12_nightOfAll_63 zf_X12_113 zn_160 zo_160 (fun _ _ _ _ _ => rfl) (hP 160 53 193 zp_160_53) ?_
    refine z_iload_n dX12_nightOfAll_66 rfl ?_
    refine z_iaload dX12_nightOfAll_67 zn_193 zh_193 h20 ?_
    refine z_if_ge (tgt := 74) dX12_nightOfAll_68 (by decide) (fun q23 => ?_) (fun q23 => ?_)
    · have hv := hv.1 q23
      refine z_iconst (v := 0) dX12_nightOfAll_74 (by decide) ?_
      refine z_istore (lv2 := [some (.ref 160), some (.int p1), some (.int p2), some (.int x3), some (.int 0)]) dX12_nightOfAll_75 (by decide) rfl rfl ?_
      exact hv
    · have hv := hv.2 q23
      refine z_goto (tgt := 123) dX12_nightOfAll_71 (by decide) ?_
      refine z_iinc (v2 := x3 + 1) (lv2 := [some (.ref 160), some (.int p1), some (.int p2), some (.int (x3 + 1)), none]) dX12_nightOfAll_123 rfl (by rfl) (by decide) rfl rfl ?_
      refine z_goto (tgt := 42) dX12_nightOfAll_126 (by decide) ?_
      exact hv
abbrev v_X12_nightOfAll_2 (d : Nat) (Q : zQt) (p1 : Int32) (p2 : Int32) (x3 : Int32) (I : zI) (L : zL) (P : zP) : Prop :=
  MB I ∧
  (((nI (vN I)) ≤ x3 →
    gw_X12_nightOfAll (d + 1) Q 42 [some (.ref 160), some (.int p1), some (.int p2), some (.int 0), none] [] I L P
  ) ∧ (¬ (nI (vN I)) ≤ x3 →
    vp_in x3 64 ∧
    ((0 ≤ (I 193 x3.toNatClampNeg) →
      zMi zm_X12_goesIn d [.ref 160, .int x3] I L P (fun r11 I7 L8 P9 =>
        ∀ I13 : zI, I13 = zuI I7 195 x3.toNatClampNeg r11 →
        gw_X12_nightOfAll (d + 1) Q 2 [some (.ref 160), some (.int p1), some (.int p2), some (.int (x3 + 1)), none] [] I13 L8 P9
      )
    ) ∧ (¬ 0 ≤ (I 193 x3.toNatClampNeg) →
      ∀ I15 : zI, I15 = zuI I 195 x3.toNatClampNeg 0 →
      gw_X12_nightOfAll (d + 1) Q 2 [some (.ref 160), some (.int p1), some (.int p2), some (.int (x3 + 1)), none] [] I15 L P
    ))
  ))
set_option maxRecDepth 20000 in
theorem g_X12_nightOfAll_2 {d : Nat} {Q : zQt} {p1 : Int32} {p2 : Int32} {x3 : Int32} {I : zI} {L : zL} {P : zP} (hP : zPk P) (hd : 1 ≤ d) (hv : v_X12_nightOfAll_2 d Q p1 p2 x3 I L P) : gw_X12_nightOfAll (d + 1) Q 2 [some (.ref 160), some (.int p1), some (.int p2), some (.int x3), none] [] I L P := by
  unfold v_X12_nightOfAll_2 at hv
  refine z_iload_n dX12_nightOfAll_2 rfl ?_
  refine z_aload_n dX12_nightOfAll_3 rfl ?_
  obtain ⟨h1, hv⟩ := hv
  refine z_callV (As := []) (st := [.int x3]) dX12_nightOfAll_4 zl_X12_346 zv_X12_worldMany (by decide) rfl zn_160 zo_160 rfl rfl (Nat.le_of_ble_eq_true rfl) ⟨Nat.le_refl _, Nat.le_refl _⟩ ⟨Nat.le_refl _, Nat.le_refl _⟩ (sp_X12_worldMany hP h1 (by omega) (K := fun r I' L' P' => nI (vN I) = r ∧ I = I' ∧ L = L' ∧ P = P') ⟨rfl, rfl, rfl, rfl⟩) (fun v1 I2 L2 P2 nx1 q3 => ?_)
  obtain ⟨rfl, r2, rfl, rfl, rfl, rfl, rfl⟩ := q3
  refine z_icmp_ge (tgt := 40) dX12_nightOfAll_7 (by decide) (fun q4 => ?_) (fun q4 => ?_)
  · have hv := hv.1 q4
    refine z_iconst (v := 0) dX12_nightOfAll_40 (by decide) ?_
    refine z_istore_n (lv2 := [some (.ref 160), some (.int p1), some (.int p2), some (.int 0), none]) dX12_nightOfAll_41 (by decide) rfl rfl ?_
    exact hv
  · have hv := hv.2 q4
    refine z_aload_n dX12_nightOfAll_10 rfl ?_
    refine z_getP dX12_nightOfAll_11 zf_X12_119 zn_160 zo_160 (fun _ _ _ _ _ => rfl) (hP 160 55 195 zp_160_55) ?_
    refine z_iload_n dX12_nightOfAll_14 rfl ?_
    refine z_aload_n dX12_nightOfAll_15 rfl ?_
    refine z_getP dX12_nightOfAll_16 zf_X12_113 zn_160 zo_160 (fun _ _ _ _ _ => rfl) (hP 160 53 193 zp_160_53) ?_
    refine z_iload_n dX12_nightOfAll_19 rfl ?_
    obtain ⟨h5, hv⟩ := hv
    refine z_iaload dX12_nightOfAll_20 zn_193 zh_193 h5 ?_
    refine z_if_ge (tgt := 28) dX12_nightOfAll_21 (by decide) (fun q6 => ?_) (fun q6 => ?_)
    · have hv := hv.1 q6
      refine z_aload_n dX12_nightOfAll_28 rfl ?_
      refine z_iload_n dX12_nightOfAll_29 rfl ?_
      refine z_callV (As := [.int x3]) (st := [.int x3, .ref 195]) dX12_nightOfAll_30 zl_X12_445 zv_X12_goesIn (by decide) rfl zn_160 zo_160 rfl rfl (Nat.le_of_ble_eq_true rfl) ⟨Nat.le_refl _, Nat.le_refl _⟩ ⟨Nat.le_refl _, Nat.le_refl _⟩ hv (fun v1 I7 L8 P9 nx1 q10 => ?_)
      obtain ⟨rfl, r11, rfl, hv⟩ := q10
      refine z_iastore dX12_nightOfAll_33 zn_195 zh_195 h5 (z_nmI (fun I13 e12 => ?_))
      have hv := hv I13 e12
      refine z_iinc (v2 := x3 + 1) (lv2 := [some (.ref 160), some (.int p1), some (.int p2), some (.int (x3 + 1)), none]) dX12_nightOfAll_34 rfl (by rfl) (by decide) rfl rfl ?_
      refine z_goto (tgt := 2) dX12_nightOfAll_37 (by decide) ?_
      exact hv
    · have hv := hv.2 q6
      refine z_iconst (v := 0) dX12_nightOfAll_24 (by decide) ?_
      refine z_goto (tgt := 33) dX12_nightOfAll_25 (by decide) ?_
      refine z_iastore dX12_nightOfAll_33 zn_195 zh_195 h5 (z_nmI (fun I15 e14 => ?_))
      have hv := hv I15 e14
      refine z_iinc (v2 := x3 + 1) (lv2 := [some (.ref 160), some (.int p1), some (.int p2), some (.int (x3 + 1)), none]) dX12_nightOfAll_34 rfl (by rfl) (by decide) rfl rfl ?_
      refine z_goto (tgt := 2) dX12_nightOfAll_37 (by decide) ?_
      exact hv
abbrev v_X12_nightOfAll (d : Nat) (Q : zQt) (p1 : Int32) (p2 : Int32) (I : zI) (L : zL) (P : zP) : Prop :=
  gw_X12_nightOfAll (d + 1) Q 2 [some (.ref 160), some (.int p1), some (.int p2), some (.int 0), none] [] I L P
set_option maxRecDepth 20000 in
theorem g_X12_nightOfAll {d : Nat} {Q : zQt} {p1 : Int32} {p2 : Int32} {I : zI} {L : zL} {P : zP} (hP : zPk P) (hd : 1 ≤ d) (hv : v_X12_nightOfAll d Q p1 p2 I L P) : zM zm_X12_nightOfAll (d + 1) 0 0 [.ref 160, .int p1, .int p2] I L P 205 Q := by
  unfold v_X12_nightOfAll at hv
  refine zM_of (lv0 := [some (.ref 160), some (.int p1), some (.int p2), none, none]) (by decide +kernel) (Nat.le_of_ble_eq_true rfl) rfl ?_
  refine z_iconst (v := 0) dX12_nightOfAll_0 (by decide) ?_
  refine z_istore_n (lv2 := [some (.ref 160), some (.int p1), some (.int p2), some (.int 0), none]) dX12_nightOfAll_1 (by decide) rfl rfl ?_
  exact hv
section NOA
variable {d : Nat} {Q : zQt} {I0 : zI} {L : zL} {P : zP} {night k : Int32}
theorem lp_X12_nightOfAll_2 {inn : Nat → Prop} {E : Nat → Nat → Prop} {ga : Nat → Nat} {fi : Nat → Prop} {J : zI} (hP : zPk P) (hE : ME I0) (h6 : vNp I0 ≤ 6) (hd : 4 ≤ d) (hJ : fSt I0 J inn E ga fi)
    (kk : ∀ I, zFr [195] [] J I → (∀ w, w < vN I0 → I 195 w = nI (fGe I0 inn E ga w)) → gw_X12_nightOfAll (d + 1) Q 42 [some (.ref 160), some (.int night), some (.int k), some (.int 0), none] [] I L P) :
    ∀ n i I, i + n = vN I0 → zFr [195] [] J I → (∀ w, w < i → I 195 w = nI (fGe I0 inn E ga w)) → gw_X12_nightOfAll (d + 1) Q 2 [some (.ref 160), some (.int night), some (.int k), some (.int (nI i)), none] [] I L P := by
  have hN := vN_64 h6
  intro n
  induction n with
  | zero =>
    intro i I hi hf h1
    have : i = vN I0 := by omega
    subst this
    have f := zFr_tr hJ.1 (zFr_wk hf (by decide) (by decide))
    have eN := vN_fr f (by decide) (by decide)
    exact g_X12_nightOfAll_2 hP (by omega) ⟨MB_fr f (by decide) (by decide) hE.1, fun _ => kk I hf h1, fun q => absurd (by rw [eN]; exact nI_le (Nat.le_refl _) (by omega)) q⟩
  | succ n ih =>
    intro i I hi hf h1
    have f := zFr_tr hJ.1 (zFr_wk hf (by decide) (by decide))
    have eN := vN_fr f (by decide) (by decide)
    have eP := vNp_fr f (by decide) (by decide)
    have hE' := ME_fr f (by decide) (by decide) (by decide) (by decide) (by decide) hE
    have e193 : I 193 = J 193 := hf.1 193 (by decide) (by decide)
    have e194 : I 194 = J 194 := hf.1 194 (by decide) (by decide)
    have next : ∀ r, r = nI (fGe I0 inn E ga i) → ∀ I1, I1 = zuI I 195 (nI i).toNatClampNeg r → gw_X12_nightOfAll (d + 1) Q 2 [some (.ref 160), some (.int night), some (.int k), some (.int (nI i + 1)), none] [] I1 L P := by
      intro r er I1 e1
      rw [nI_cl (by omega)] at e1
      subst e1
      rw [nI_1]
      refine ih (i + 1) _ (by omega) (zFr_c hf (by decide) (by decide)) (fun w hw => ?_)
      rcases Nat.lt_succ_iff_lt_or_eq.mp hw with h | h
      · rw [zuI_o (by omega)]; exact h1 w h
      · subst h; rw [zuI_v]; exact er
    obtain ⟨g1, g2⟩ := hJ.2.2.2.1 i (by omega)
    refine g_X12_nightOfAll_2 hP (by omega) ⟨hE'.1, fun q => absurd q (by rw [eN]; exact nI_ge (by omega) (by omega)), fun _ => ⟨nx_in (by omega) (by decide), fun q => ?_, fun q => next 0 ?_⟩⟩
    · rw [nI_cl (by omega), e193] at q
      have hin := (hJ.2.1 i (by omega)).mp q
      refine sp_X12_goesIn hP hE' (by omega) g2 (by rw [e194]; exact g1) (by omega) hd (next _ ?_)
      refine nIe ?_
      unfold fGs fGo fGe
      rw [if_pos hin, eP, eN, e193, vSty_fr f (by decide) (by decide), vOwn_fr f (by decide) (by decide)]
      have el : fLk I = fLk I0 := by funext p a b; unfold fLk vSee; rw [vB_fr f (by decide), eN, f.1 168 (by decide) (by decide)]
      rw [el]
      exact bset_c (fun p _ => sGo_ag (fun v hv => hJ.2.2.1 v i hv (by omega) hin) Iff.rfl Iff.rfl (fun _ _ _ => Iff.rfl))
    · rw [nI_cl (by omega), e193] at q
      have hin := fun z => q ((hJ.2.1 i (by omega)).mpr z)
      unfold fGe
      rw [if_neg hin]
      rfl
/-- the first world that looks so -/
def fFst (J : zI) (w : Nat) (x : Int32) : Prop := ∃ v, v ≤ w ∧ x = nI v ∧ J 193 v = J 193 w ∧ J 195 v = J 195 w ∧ ∀ u, u < v → ¬ (J 193 u = J 193 w ∧ J 195 u = J 195 w)
theorem lp_X12_nightOfAll_77 {J I : zI} {w : Nat} (hP : zPk P) (hd : 1 ≤ d) (hw : w < 64) (e193 : I 193 = J 193) (e195 : I 195 = J 195)
    (kk : ∀ x, fFst J w x → gw_X12_nightOfAll (d + 1) Q 42 [some (.ref 160), some (.int night), some (.int k), some (.int (nI w + 1)), none] [] (zuI I 196 w x) L P) :
    ∀ n v, v + n = w → (∀ u, u < v → ¬ (J 193 u = J 193 w ∧ J 195 u = J 195 w)) → gw_X12_nightOfAll (d + 1) Q 77 [some (.ref 160), some (.int night), some (.int k), some (.int (nI w)), some (.int (nI v))] [] I L P := by
  intro n
  induction n with
  | zero =>
    intro v hv h1
    have : v = w := by omega
    subst this
    refine g_X12_nightOfAll_77 hP hd ⟨nx_in (by omega) (by decide), nx_in (by omega) (by decide), fun q => absurd rfl q, fun _ => ⟨fun _ I1 e1 => ?_, fun q => absurd rfl q⟩⟩
    rw [nI_cl (by omega)] at e1
    subst e1
    exact kk _ ⟨v, Nat.le_refl _, rfl, rfl, rfl, h1⟩
  | succ n ih =>
    intro v hv h1
    have next : ¬ (J 193 v = J 193 w ∧ J 195 v = J 195 w) → gw_X12_nightOfAll (d + 1) Q 77 [some (.ref 160), some (.int night), some (.int k), some (.int (nI w)), some (.int (nI v + 1))] [] I L P := by
      intro hc
      rw [nI_1]
      refine ih (v + 1) (by omega) (fun u hu => ?_)
      rcases Nat.lt_succ_iff_lt_or_eq.mp hu with h | h
      · exact h1 u h
      · subst h; exact hc
    refine g_X12_nightOfAll_77 hP hd ⟨nx_in (by omega) (by decide), nx_in (by omega) (by decide), fun q => next ?_, fun q => ⟨fun q2 I1 e1 => ?_, fun q2 => next ?_⟩⟩
    · rw [nI_cl (by omega), nI_cl (by omega), e193] at q
      exact fun h => q h.1
    · rw [nI_cl (by omega), nI_cl (by omega), e193] at q
      rw [nI_cl (by omega), nI_cl (by omega), e195] at q2
      rw [nI_cl (by omega)] at e1
      subst e1
      exact kk _ ⟨v, by omega, rfl, q, q2, h1⟩
    · rw [nI_cl (by omega), nI_cl (by omega), e195] at q2
      exact fun h => q2 h.2
theorem lp_X12_nightOfAll_42 {J : zI} (hP : zPk P) (hB : MB J) (h6 : vNp J ≤ 6) (hd : 1 ≤ d)
    (kk : ∀ I, zFr [196] [] J I → (∀ w, w < vN J → (0 ≤ J 193 w → fFst J w (I 196 w)) ∧ (¬ 0 ≤ J 193 w → I 196 w = J 193 w)) → gw_X12_nightOfAll (d + 1) Q 131 [some (.ref 160), some (.int night), some (.int k), some (.int 0), none] [] I L P) :
    ∀ n i I, i + n = vN J → zFr [196] [] J I → (∀ w, w < i → (0 ≤ J 193 w → fFst J w (I 196 w)) ∧ (¬ 0 ≤ J 193 w → I 196 w = J 193 w)) → gw_X12_nightOfAll (d + 1) Q 42 [some (.ref 160), some (.int night), some (.int k), some (.int (nI i)), none] [] I L P := by
  have hN := vN_64 h6
  intro n
  induction n with
  | zero =>
    intro i I hi hf h1
    have : i = vN J := by omega
    subst this
    have eN := vN_fr hf (by decide) (by decide)
    exact g_X12_nightOfAll_42 hP (by omega) ⟨MB_fr hf (by decide) (by decide) hB, fun _ => kk I hf h1, fun q => absurd (by rw [eN]; exact nI_le (Nat.le_refl _) (by omega)) q⟩
  | succ n ih =>
    intro i I hi hf h1
    have eN := vN_fr hf (by decide) (by decide)
    have e193 : I 193 = J 193 := hf.1 193 (by decide) (by decide)
    have e195 : I 195 = J 195 := hf.1 195 (by decide) (by decide)
    refine g_X12_nightOfAll_42 hP (by omega) ⟨MB_fr hf (by decide) (by decide) hB, fun q => absurd q (by rw [eN]; exact nI_ge (by omega) (by omega)), fun _ => ⟨nx_in (by omega) (by decide), fun I1 e1 => ?_⟩⟩
    rw [nI_cl (by omega)] at e1
    subst e1
    refine ⟨fun q => ?_, fun q => ?_⟩
    · rw [nI_cl (by omega), zuI_ne (by decide), e193] at q
      refine lp_X12_nightOfAll_77 (J := J) hP hd (by omega) (by rw [zuI_ne (by decide)]; exact e193) (by rw [zuI_ne (by decide)]; exact e195) (fun x hx => ?_) i 0 (by omega) (fun u hu => absurd hu (Nat.not_lt_zero u))
      rw [nI_1]
      refine ih (i + 1) _ (by omega) (zFr_c (zFr_c hf (by decide) (by decide)) (by decide) (by decide)) (fun w hw => ?_)
      rcases Nat.lt_succ_iff_lt_or_eq.mp hw with h | h
      · rw [zuI_o (by omega), zuI_o (by omega)]; exact h1 w h
      · subst h; rw [zuI_v]; exact ⟨fun _ => hx, fun z => absurd q z⟩
    · rw [nI_cl (by omega), zuI_ne (by decide), e193] at q
      rw [nI_1]
      refine ih (i + 1) _ (by omega) (zFr_c hf (by decide) (by decide)) (fun w hw => ?_)
      rcases Nat.lt_succ_iff_lt_or_eq.mp hw with h | h
      · rw [zuI_o (by omega)]; exact h1 w h
      · subst h; rw [zuI_v, e193]; exact ⟨fun z => absurd z q, fun _ => rfl⟩
theorem lp_X12_nightOfAll_169 {J : zI} {w ge : Nat} {fi : Prop} (hP : zPk P) (hd : 1 ≤ d) (hw : w < 64) (hH : MH J) (hge : ge < 256) (e195 : J 195 w = nI ge)
    (kk : ∀ I, zFr [198] [] J I → (∀ v, v ≠ w → I 198 v = J 198 v) → I 198 w = bP (fi ∧ ∀ s, s < vNg J → fOk J night k ge s) → gw_X12_nightOfAll (d + 1) Q 131 [some (.ref 160), some (.int night), some (.int k), some (.int (nI w + 1)), none] [] I L P) :
    ∀ n i I, i + n = vNg J → zFr [198] [] J I → (∀ v, v ≠ w → I 198 v = J 198 v) → I 198 w = bP (fi ∧ ∀ s, s < i → fOk J night k ge s) → gw_X12_nightOfAll (d + 1) Q 169 [some (.ref 160), some (.int night), some (.int k), some (.int (nI w)), some (.int (nI i))] [] I L P := by
  obtain ⟨m1, m2, m3⟩ := hH
  intro n
  induction n with
  | zero =>
    intro i I hi hf h1 h2
    have : i = vNg J := by omega
    subst this
    refine g_X12_nightOfAll_169 hP hd ⟨fun _ => kk I hf h1 h2, fun q => absurd ?_ q⟩
    rw [hf.2 59 (by decide), m2]
    exact nI_le (Nat.le_refl _) (by omega)
  | succ n ih =>
    intro i I hi hf h1 h2
    have e189 : I 189 = J 189 := hf.1 189 (by decide) (by decide)
    have e190 : I 190 = J 190 := hf.1 190 (by decide) (by decide)
    have e191 : I 191 = J 191 := hf.1 191 (by decide) (by decide)
    have e192 : I 192 = J 192 := hf.1 192 (by decide) (by decide)
    have e197 : I 197 = J 197 := hf.1 197 (by decide) (by decide)
    have e195' : I 195 w = nI ge := by rw [hf.1 195 (by decide) (by decide)]; exact e195
    obtain ⟨⟨p, hp, e189'⟩, m4⟩ := m3 i (by omega)
    have cp : (nI p).toNatClampNeg = p := nI_cl (by omega)
    have keepit : fOk J night k ge i → gw_X12_nightOfAll (d + 1) Q 169 [some (.ref 160), some (.int night), some (.int k), some (.int (nI w)), some (.int (nI i + 1))] [] I L P := by
      intro hc
      rw [nI_1]
      refine ih (i + 1) I (by omega) hf h1 (h2.trans (bP_c ⟨fun h => ⟨h.1, fun s hs => ?_⟩, fun h => ⟨h.1, fun s hs => h.2 s (by omega)⟩⟩))
      rcases Nat.lt_succ_iff_lt_or_eq.mp hs with z | z
      · exact h.2 s z
      · subst z; exact hc
    have drop : ¬ fOk J night k ge i → ∀ I1, I1 = zuI I 198 (nI w).toNatClampNeg 0 → gw_X12_nightOfAll (d + 1) Q 169 [some (.ref 160), some (.int night), some (.int k), some (.int (nI w)), some (.int (nI i + 1))] [] I1 L P := by
      intro hc I1 e1
      rw [nI_cl (by omega)] at e1
      subst e1
      rw [nI_1]
      refine ih (i + 1) _ (by omega) (zFr_c hf (by decide) (by decide)) (fun v hv => ?_) ?_
      · rw [zuI_o hv]; exact h1 v hv
      · rw [zuI_v]; exact (bP_f (fun h => hc (h.2 i (by omega)))).symm
    have rest : fRel J night k i → vp_in (nI w) 64 ∧
          ((¬ (((I 195 (nI w).toNatClampNeg) >>> ((I 189 (nI i).toNatClampNeg) &&& 31) : Int32) &&& 1 : Int32) = 1 →
            ((0 = (I 197 (nI i).toNatClampNeg) →
              gw_X12_nightOfAll (d + 1) Q 169 [some (.ref 160), some (.int night), some (.int k), some (.int (nI w)), some (.int (nI i + 1))] [] I L P
            ) ∧ (¬ 0 = (I 197 (nI i).toNatClampNeg) →
              ∀ I48 : zI, I48 = zuI I 198 (nI w).toNatClampNeg 0 →
              gw_X12_nightOfAll (d + 1) Q 169 [some (.ref 160), some (.int night), some (.int k), some (.int (nI w)), some (.int (nI i + 1))] [] I48 L P
            ))
          ) ∧ ((((I 195 (nI w).toNatClampNeg) >>> ((I 189 (nI i).toNatClampNeg) &&& 31) : Int32) &&& 1 : Int32) = 1 →
            ((1 = (I 197 (nI i).toNatClampNeg) →
              gw_X12_nightOfAll (d + 1) Q 169 [some (.ref 160), some (.int night), some (.int k), some (.int (nI w)), some (.int (nI i + 1))] [] I L P
            ) ∧ (¬ 1 = (I 197 (nI i).toNatClampNeg) →
              ∀ I51 : zI, I51 = zuI I 198 (nI w).toNatClampNeg 0 →
              gw_X12_nightOfAll (d + 1) Q 169 [some (.ref 160), some (.int night), some (.int k), some (.int (nI w)), some (.int (nI i + 1))] [] I51 L P
            ))
          )) := by
      intro hr
      have ok : fOk J night k ge i ↔ (ge.testBit p = true ↔ J 197 i = 1) := by
        unfold fOk; rw [e189', cp]; exact ⟨fun h => h hr, fun h _ => h⟩
      rw [nI_cl (show w < 2 ^ 31 by omega), nI_cl (show i < 2 ^ 31 by omega), e195', e189, e189', e197, nx_bit1 (by omega) (by omega)]
      have nw : (nI w).toNatClampNeg = w := nI_cl (by omega)
      rw [nw] at drop
      refine ⟨nx_in (by omega) (by decide), fun q => ⟨fun q2 => keepit ?_, fun q2 => drop ?_⟩, fun q => ⟨fun q2 => keepit ?_, fun q2 => drop ?_⟩⟩
      · rw [ok, ← q2]; exact ⟨fun z => absurd z q, fun z => absurd z (by decide)⟩
      · rw [ok]; intro z; rcases m4 with m | m
        · exact q2 m.symm
        · exact q (z.mpr m)
      · rw [ok]; exact ⟨fun _ => q2.symm, fun _ => q⟩
      · rw [ok]; intro z; exact q2 (z.mp q).symm
    refine g_X12_nightOfAll_169 hP hd ⟨fun q => absurd q ?_, fun _ => ⟨nx_in (by omega) (by decide), fun q => keepit ?_, fun q => ⟨fun q2 => keepit ?_, fun q2 => ⟨fun q3 => rest ?_, fun q3 => ⟨fun q4 => keepit ?_, fun q4 => rest ?_⟩⟩⟩⟩⟩
    · rw [hf.2 59 (by decide), m2]
      exact nI_ge (by omega) (by omega)
    · rw [nI_cl (by omega), e190] at q; exact fun h => absurd h.1 q
    · rw [nI_cl (by omega), e191] at q2; exact fun h => absurd q2 h.2.1
    · rw [nI_cl (by omega), e190] at q; rw [nI_cl (by omega), e191] at q2; rw [nI_cl (by omega), e192] at q3
      exact ⟨q, q2, Or.inl q3⟩
    · rw [nI_cl (by omega), e192] at q3; rw [nI_cl (by omega), e192] at q4
      exact fun h => (h.2.2.elim (fun z => absurd z q3) (fun z => absurd q4 z))
    · rw [nI_cl (by omega), e190] at q; rw [nI_cl (by omega), e191] at q2; rw [nI_cl (by omega), e192] at q4
      exact ⟨q, q2, Or.inr q4⟩
theorem lp_X12_nightOfAll_131 {J : zI} {ga ge : Nat → Nat} {fi : Nat → Prop} (hP : zPk P) (hB : MB J) (h6 : vNp J ≤ 6) (hd : 1 ≤ d) (hH : MH J) (hge : ∀ w, w < vN J → ge w < 256 ∧ J 195 w = nI (ge w)) (hga : ∀ w, w < vN J → J 194 w = nI (ga w)) (hfi : ∀ w, w < vN J → J 198 w = bP (fi w))
    (kk : ∀ I, zFr [193, 194, 198] [] J I → (∀ w, w < vN J → I 193 w = J 196 w ∧ I 194 w = nI (ga w ||| ge w) ∧ I 198 w = bP (fi w ∧ ∀ s, s < vNg J → fOk J night k (ge w) s)) → Q none I L P 205) :
    ∀ n i I, i + n = vN J → zFr [193, 194, 198] [] J I → (∀ w, w < i → I 193 w = J 196 w ∧ I 194 w = nI (ga w ||| ge w) ∧ I 198 w = bP (fi w ∧ ∀ s, s < vNg J → fOk J night k (ge w) s)) → (∀ w, ¬ w < i → I 194 w = J 194 w ∧ I 198 w = J 198 w) →
      gw_X12_nightOfAll (d + 1) Q 131 [some (.ref 160), some (.int night), some (.int k), some (.int (nI i)), none] [] I L P := by
  have hN := vN_64 h6
  intro n
  induction n with
  | zero =>
    intro i I hi hf h1 h2
    have : i = vN J := by omega
    subst this
    have eN := vN_fr hf (by decide) (by decide)
    exact g_X12_nightOfAll_131 hP (by omega) ⟨MB_fr hf (by decide) (by decide) hB, fun _ => kk I hf h1, fun q => absurd (by rw [eN]; exact nI_le (Nat.le_refl _) (by omega)) q⟩
  | succ n ih =>
    intro i I hi hf h1 h2
    have eN := vN_fr hf (by decide) (by decide)
    refine g_X12_nightOfAll_131 hP (by omega) ⟨MB_fr hf (by decide) (by decide) hB, fun q => absurd q (by rw [eN]; exact nI_ge (by omega) (by omega)), fun _ => ⟨nx_in (by omega) (by decide), fun I1 e1 I2 e2 => ?_⟩⟩
    rw [nI_cl (by omega)] at e1 e2
    subst e1
    rw [zuI_ne (by decide), zuI_ne (by decide)] at e2
    subst e2
    obtain ⟨g1, g2⟩ := hge i (by omega)
    have hb : zFr [193, 194, 198] [] J (zuI (zuI I 193 i (I 196 i)) 194 i (I 194 i ||| I 195 i)) := zFr_c (zFr_c hf (by decide) (by decide)) (by decide) (by decide)
    have v193 : (zuI (zuI I 193 i (I 196 i)) 194 i (I 194 i ||| I 195 i)) 193 i = J 196 i := by rw [zuI_ne (by decide), zuI_v, hf.1 196 (by decide) (by decide)]
    have v194 : (zuI (zuI I 193 i (I 196 i)) 194 i (I 194 i ||| I 195 i)) 194 i = nI (ga i ||| ge i) := by rw [zuI_v, (h2 i (by omega)).1, hf.1 195 (by decide) (by decide), g2, hga i (by omega), nx_or]
    have o193 : ∀ w, w ≠ i → (zuI (zuI I 193 i (I 196 i)) 194 i (I 194 i ||| I 195 i)) 193 w = I 193 w := fun w hw => by rw [zuI_ne (by decide), zuI_o hw]
    have o194 : ∀ w, w ≠ i → (zuI (zuI I 193 i (I 196 i)) 194 i (I 194 i ||| I 195 i)) 194 w = I 194 w := fun w hw => by rw [zuI_o hw, zuI_ne (by decide)]
    have o198 : (zuI (zuI I 193 i (I 196 i)) 194 i (I 194 i ||| I 195 i)) 198 = I 198 := by rw [zuI_ne (by decide), zuI_ne (by decide)]
    generalize zuI (zuI I 193 i (I 196 i)) 194 i (I 194 i ||| I 195 i) = J1 at hb v193 v194 o193 o194 o198
    have hH1 : MH J1 := by
      obtain ⟨m1, m2, m3⟩ := hH
      have : vNg J1 = vNg J := by unfold vNg; rw [hb.2 59 (by decide)]
      refine ⟨by omega, by rw [hb.2 59 (by decide), this]; exact m2, fun s hs => ?_⟩
      rw [hb.1 189 (by decide) (by decide), hb.1 197 (by decide) (by decide)]
      exact m3 s (by omega)
    have ng : vNg J1 = vNg J := by unfold vNg; rw [hb.2 59 (by decide)]
    have eOk : ∀ g s, fOk J1 night k g s ↔ fOk J night k g s := by
      intro g s
      unfold fOk fRel
      rw [hb.1 189 (by decide) (by decide), hb.1 190 (by decide) (by decide), hb.1 191 (by decide) (by decide), hb.1 192 (by decide) (by decide), hb.1 197 (by decide) (by decide)]
    refine lp_X12_nightOfAll_169 (J := J1) (fi := fi i) hP hd (by omega) hH1 g1 (by rw [hb.1 195 (by decide) (by decide)]; exact g2) (fun I3 a1 a2 a3 => ?_) (vNg J1) 0 J1 (by omega) (zFr_rf _ _ _) (fun _ _ => rfl) ?_
    · rw [nI_1]
      refine ih (i + 1) I3 (by omega) (zFr_tr hb (zFr_wk a1 (by decide) (by decide))) (fun w hw => ?_) (fun w hw => ?_)
      · rw [a1.1 193 (by decide) (by decide), a1.1 194 (by decide) (by decide)]
        rcases Nat.lt_succ_iff_lt_or_eq.mp hw with h | h
        · rw [o193 w (by omega), o194 w (by omega), a2 w (by omega), o198]; exact h1 w h
        · subst h
          refine ⟨v193, v194, a3.trans (bP_c ?_)⟩
          rw [ng]
          exact and_congr_right (fun _ => forall_congr' (fun s => forall_congr' (fun _ => eOk _ s)))
      · rw [a1.1 194 (by decide) (by decide), o194 w (by omega), a2 w (by omega), o198]; exact h2 w (by omega)
    · rw [o198, (h2 i (by omega)).2, hfi i (by omega)]
      exact bP_c ⟨fun h => ⟨h, fun s hs => absurd hs (Nat.not_lt_zero s)⟩, fun h => h.1⟩
end NOA
theorem MH_fr {cs sl : List Nat} {I0 I : zI} (h : zFr cs sl I0 I) (h1 : 59 ∉ sl) (h2 : 189 ∉ cs) (h3 : 197 ∉ cs) (hm : MH I0) : MH I := by
  unfold MH vNg
  rw [h.2 59 h1, h.1 189 h2 (by decide), h.1 197 h3 (by decide)]
  exact hm
theorem fOk_fr {cs sl : List Nat} {I0 I : zI} (h : zFr cs sl I0 I) (h1 : 189 ∉ cs) (h2 : 190 ∉ cs) (h3 : 191 ∉ cs) (h4 : 192 ∉ cs) (h5 : 197 ∉ cs) : fOk I = fOk I0 := by
  funext n k g s
  unfold fOk fRel
  rw [h.1 189 h1 (by decide), h.1 190 h2 (by decide), h.1 191 h3 (by decide), h.1 192 h4 (by decide), h.1 197 h5 (by decide)]
theorem vNg_fr {cs sl : List Nat} {I0 I : zI} (h : zFr cs sl I0 I) (h1 : 59 ∉ sl) : vNg I = vNg I0 := by unfold vNg; rw [h.2 59 h1]
theorem sp_X12_nightOfAll {d : Nat} {I0 I : zI} {L : zL} {P : zP} {night k : Int32} {inn : Nat → Prop} {E : Nat → Nat → Prop} {ga : Nat → Nat} {fi : Nat → Prop} (hP : zPk P) (hE : ME I0) (hH : MH I0) (h6 : vNp I0 ≤ 6) (hd : 5 ≤ d) (h : fSt I0 I inn E ga fi) {K : zI → zL → zP → Prop}
    (kk : ∀ I', fSt I0 I' inn (fE1 I0 inn E ga) (fG1 I0 inn E ga) (fun w => fi w ∧ ∀ s, s < vNg I0 → fOk I0 night k (fGe I0 inn E ga w) s) → zFr fC [] I I' → K I' L P) : zMv zm_X12_nightOfAll d [.ref 160, .int night, .int k] I L P K := by
  obtain ⟨d, rfl⟩ : ∃ e, d = e + 1 := ⟨d - 1, by omega⟩
  have eN := vN_fr h.1 (by decide) (by decide)
  have eP := vNp_fr h.1 (by decide) (by decide)
  refine g_X12_nightOfAll (d := d) hP (by omega) ?_
  refine lp_X12_nightOfAll_2 hP hE h6 (by omega) h (fun I1 a1 a2 => ?_) (vN I0) 0 I (by omega) (zFr_rf _ _ _) (fun w hw => absurd hw (Nat.not_lt_zero w))
  have f1 := zFr_tr h.1 (zFr_wk a1 (by decide) (by decide))
  have eN1 := vN_fr f1 (by decide) (by decide)
  have eP1 := vNp_fr f1 (by decide) (by decide)
  refine lp_X12_nightOfAll_42 (J := I1) hP (MB_fr f1 (by decide) (by decide) hE.1) (by omega) (by omega) (fun I2 b1 b2 => ?_) (vN I1) 0 I1 (by omega) (zFr_rf _ _ _) (fun w hw => absurd hw (Nat.not_lt_zero w))
  have f2 := zFr_tr f1 (zFr_wk b1 (by decide) (by decide))
  have eN2 := vN_fr f2 (by decide) (by decide)
  have eP2 := vNp_fr f2 (by decide) (by decide)
  have e193 : I1 193 = I 193 := a1.1 193 (by decide) (by decide)
  refine lp_X12_nightOfAll_131 (J := I2) (ga := ga) (ge := fGe I0 inn E ga) (fi := fi) hP (MB_fr f2 (by decide) (by decide) hE.1) (by omega) (by omega) (MH_fr f2 (by decide) (by decide) (by decide) hH)
    (fun w hw => ⟨fGe_lt hE.1 _ _ _ _, by rw [b1.1 195 (by decide) (by decide)]; exact a2 w (by omega)⟩) (fun w hw => by rw [b1.1 194 (by decide) (by decide), a1.1 194 (by decide) (by decide)]; exact (h.2.2.2.1 w (by omega)).1) (fun w hw => by rw [b1.1 198 (by decide) (by decide), a1.1 198 (by decide) (by decide)]; exact h.2.2.2.2 w (by omega))
    (fun I3 c1 c2 => qv (kk I3 ⟨zFr_tr f2 (zFr_wk c1 (by decide) (by decide)), fun w hw => ?_, fun v w hv hw hin => ?_, fun w hw => ⟨(c2 w (by omega)).2.1, or256 (h.2.2.2.1 w hw).2 (fGe_lt hE.1 _ _ _ _)⟩, fun w hw => ?_⟩ (zFr_tr (zFr_wk a1 (by decide) (by decide)) (zFr_tr (zFr_wk b1 (by decide) (by decide)) (zFr_wk c1 (by decide) (by decide)))))) (vN I2) 0 I2 (by omega) (zFr_rf _ _ _) (fun w hw => absurd hw (Nat.not_lt_zero w)) (fun _ _ => ⟨rfl, rfl⟩)
  · rw [(c2 w (by omega)).1]
    obtain ⟨t1, t2⟩ := b2 w (by omega)
    have hin := h.2.1 w hw
    rw [e193] at t1 t2
    by_cases q : 0 ≤ I 193 w
    · obtain ⟨v, v1, v2, -⟩ := t1 q
      rw [v2]
      exact ⟨fun _ => hin.mp q, fun _ => nI_pos' (by have := vN_64 h6; omega)⟩
    · rw [t2 q]; exact hin
  · rw [(c2 v (by omega)).1, (c2 w (by omega)).1]
    have hN := vN_64 h6
    have cl : ∀ u, u < vN I0 → ∀ u', u' < vN I0 → (I1 195 u = I1 195 u' ↔ fGe I0 inn E ga u = fGe I0 inn E ga u') := by
      intro u hu u' hu'
      have g1 := fGe_lt hE.1 inn E ga u
      have g2 := fGe_lt hE.1 inn E ga u'
      rw [a2 u hu, a2 u' hu']
      exact nI_eq (by omega) (by omega)
    have pw := (h.2.1 w hw).mpr hin
    obtain ⟨x, x1, x2, x3, x4, x5⟩ := (b2 w (by omega)).1 (by rw [e193]; exact pw)
    rw [e193] at x3 x5
    by_cases pv : 0 ≤ I 193 v
    · obtain ⟨y, y1, y2, y3, y4, y5⟩ := (b2 v (by omega)).1 (by rw [e193]; exact pv)
      rw [e193] at y3 y5
      rw [x2, y2]
      unfold fE1
      rw [← h.2.2.1 v w hv hw hin, ← cl v hv w hw]
      constructor
      · intro e
        have e : y = x := (nI_eq (by omega) (by omega)).mp e
        subst e
        exact ⟨y3.symm.trans x3, y4.symm.trans x4⟩
      · rintro ⟨e1, e2⟩
        have : ¬ y < x := fun z => x5 y z ⟨y3.trans e1, y4.trans e2⟩
        have : ¬ x < y := fun z => y5 x z ⟨x3.trans e1.symm, x4.trans e2.symm⟩
        have : y = x := by omega
        rw [this]
    · have t := (b2 v (by omega)).2 (by rw [e193]; exact pv)
      rw [e193] at t
      rw [t, x2]
      constructor
      · intro e
        exact absurd (by rw [e]; exact nI_pos' (by omega)) pv
      · rintro ⟨e1, -⟩
        have := (h.2.2.1 v w hv hw hin).mpr e1
        exact absurd (by rw [this]; exact pw) pv
  · rw [(c2 w (by omega)).2.2, vNg_fr f2 (by decide), fOk_fr f2 (by decide) (by decide) (by decide) (by decide) (by decide)]
