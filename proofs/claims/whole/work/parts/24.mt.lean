/-! ===== the model: what is tried out ===== -/
abbrev tC : List Nat := [180, 183, 184, 185, 186, 187, 188]
abbrev tL : List Nat := [39, 40, 46, 48]
/-- behind some nights and sayings from I0: po is possible, gn are gone -/
def tSt (I0 I : zI) (po : Nat → Prop) (gn : Nat) : Prop := zFr tC tL I0 I ∧ (∀ w, w < 256 → I 180 w = 0 ∨ I 180 w = 1) ∧ (∀ w, w < vN I0 → (vPoss I w ↔ po w)) ∧ (I 160 40 = nI gn ∧ gn < 256) ∧ MP I ∧ po (vTw I0)
def tB (I0 : zI) : Prop := ME I0 ∧ MT I0 ∧ MC I0
section TRY
variable {d : Nat} {I0 I : zI} {L : zL} {P : zP} {po : Nat → Prop} {gn : Nat}
theorem t_ME (hb : tB I0) (h : tSt I0 I po gn) : ME I := ME_fr h.1 (by decide) (by decide) (by decide) (by decide) (by decide) hb.1
theorem t_MT (hb : tB I0) (h : tSt I0 I po gn) : MT I := MT_fr h.1 (by decide) (by decide) (by decide) hb.2.1
theorem t_N (h : tSt I0 I po gn) : vN I = vN I0 := vN_fr h.1 (by decide) (by decide)
theorem t_np (h : tSt I0 I po gn) : vNp I = vNp I0 := vNp_fr h.1 (by decide) (by decide)
theorem t_tw (h : tSt I0 I po gn) : vTw I = vTw I0 := vTw_fr h.1 (by decide) (by decide)
theorem t_lk (h : tSt I0 I po gn) : vLike I = vLike I0 := vLike_fr' h.1 (by decide) (by decide) (by decide) (by decide) (by decide) (by decide)
theorem t_MG (h : tSt I0 I po gn) : MG I ∧ vGn I = gn := by
  have e : vGn I = gn := by unfold vGn; rw [h.2.2.2.1.1, nI_cl (by have := h.2.2.2.1.2; omega)]
  exact ⟨⟨by rw [e]; exact h.2.2.2.1.2, by rw [e]; exact h.2.2.2.1.1⟩, e⟩
theorem t_MO (hb : tB I0) (h : tSt I0 I po gn) : MO I := fun w hw => h.2.1 w (by have := vN_le (t_ME hb h).1; omega)
theorem t_gs (hb : tB I0) (h : tSt I0 I po gn) (w : Nat) : vGs I w = aGs I0 po gn w := by
  unfold vGs vGo aGs
  rw [t_N h, t_np h, t_lk h, (t_MG h).2, vSty_fr h.1 (by decide) (by decide), vOwn_fr h.1 (by decide) (by decide)]
  exact bset_c (fun p _ => sGo_ag (fun w hw => h.2.2.1 w hw) Iff.rfl Iff.rfl (fun _ _ _ => Iff.rfl))
theorem t_row (hb : tB I0) (h : tSt I0 I po gn) {cs : List (Int32 × Int32)} (hg : eGd (vNp I0) cs) {w : Nat} (hw : w < vN I0) : eVal I cs w = aRw I0 po gn cs w := by
  unfold eVal aRw
  rw [t_N h, t_np h, t_lk h, h.2.2.2.1.1]
  exact eRun_ag (T := fun _ => True) (fun _ _ _ => trivial) (fun w hw => h.2.2.1 w hw) (fun _ _ _ _ _ _ _ _ => Iff.rfl) hb.1.1.2.1 cs 0 _ _ hg.1 (fun j _ hj => absurd hj (Nat.not_lt_zero j)) 0 w (by rw [hg.2]; decide) hw trivial
theorem t_night (hP : zPk P) (hb : tB I0) (h : tSt I0 I po gn) (hd : 5 ≤ d) {K : Int32 → zI → zL → zP → Prop}
    (k : ∀ I', tSt I0 I' (aPo I0 po gn) (aGn I0 po gn) → I' 160 48 = nI (cP (fun w => po w ∧ ¬ aGs I0 po gn w = aGs I0 po gn (vTw I0)) (vN I0)) → I' 160 39 = I 160 39 + 1 → K (nI (aGs I0 po gn (vTw I0))) I' L P) : zMi zm_X12_oneNight d [.ref 160] I L P K := by
  have hE := t_ME hb h
  have hT := t_MT hb h
  have eN := t_N h
  have eT := t_tw h
  have ht := hb.2.1.1
  have hN := vN_le hE.1
  refine sp_X12_oneNight hP hE (t_MO hb h) (t_MG h).1 hT (by rw [eT]; exact (h.2.2.1 _ ht).mpr h.2.2.2.2.2) hd (fun I' a1 a2 a3 a4 a5 a6 a7 => ?_)
  rw [t_gs hb h, eT]
  have a3' : ∀ w, w < vN I0 → I' 180 w = bP (vPoss I w ∧ aGs I0 po gn w = aGs I0 po gn (vTw I0)) := by
    intro w hw
    have := a3 w (by omega)
    rw [t_gs hb h, t_gs hb h, eT] at this
    exact this
  refine k I' ⟨zFr_tr h.1 (zFr_wk a1 (by decide) (by decide)), fun w hw => ?_, fun w hw => ?_, ⟨?_, ?_⟩, Or.inl a5, ⟨h.2.2.2.2.2, rfl⟩⟩ ?_ a7
  · by_cases hwN : w < vN I0
    · rw [a3' w hwN]; exact bP_or _
    · rw [a2 w (by omega)]; exact h.2.1 w hw
  · unfold vPoss
    rw [a3' w hw, bP_n]
    unfold aPo
    exact and_congr_left (fun _ => h.2.2.1 w hw)
  · rw [a6, (t_MG h).2, t_gs hb h, eT]; rfl
  · exact or256 h.2.2.2.1.2 (aGs_lt hb.1.1 _ _ _)
  · rw [a4, eN]
    refine nIe (cP_c (fun w hw => ?_))
    rw [t_gs hb h, t_gs hb h, eT]
    exact and_congr_left (fun _ => h.2.2.1 w hw)
/-- a row of some formula strikes -/
theorem t_strike (hP : zPk P) (hb : tB I0) (h : tSt I0 I po gn) (hd : 2 ≤ d) {r : Nat → Int32} (hr : ∀ w, w < vN I0 → I 183 w = r w) {K : Int32 → zI → zL → zP → Prop}
    (k0 : r (vTw I0) = 0 → K (-1) I L P)
    (k : ¬ r (vTw I0) = 0 → ∀ I', tSt I0 I' (fun w => po w ∧ ¬ r w = 0) gn → zFr [180] [46] I I' → I' 160 46 = 0 → K (nI (cP (fun w => po w ∧ r w = 0) (vN I0))) I' L P) : zMi zm_X12_strike d [.ref 160] I L P K := by
  have hE := t_ME hb h
  have eN := t_N h
  have eT := t_tw h
  have ht := hb.2.1.1
  refine sp_X12_strike hP hE.1 (t_MO hb h) (t_MT hb h) hd (fun q => k0 ?_) (fun q I' a1 a2 a3 a4 => ?_)
  · rw [eT, hr _ ht] at q; exact q
  · rw [eT, hr _ ht] at q
    have e : cP (fun w => vPoss I w ∧ I 183 w = 0) (vN I) = cP (fun w => po w ∧ r w = 0) (vN I0) := by
      rw [eN]
      refine cP_c (fun w hw => ?_)
      rw [hr w hw]
      exact and_congr_left (fun _ => h.2.2.1 w hw)
    rw [e]
    refine k q I' ⟨zFr_tr h.1 (zFr_wk a1 (by decide) (by decide)), fun w hw => ?_, fun w hw => ?_, ⟨?_, h.2.2.2.1.2⟩, Or.inl a2, ⟨h.2.2.2.2.2, q⟩⟩ a1 a2
    · by_cases hwN : w < vN I0
      · rw [a4 w (by omega)]; exact bP_or _
      · rw [a3 w (by omega)]; exact h.2.1 w hw
    · unfold vPoss
      rw [a4 w (by omega), bP_n, hr w hw]
      exact and_congr_left (fun _ => h.2.2.1 w hw)
    · rw [a1.2 40 (by decide)]; exact h.2.2.2.1.1
theorem t_eF (h : tSt I0 I po gn) {I' : zI} (hF : eF I I') (hM : MP I') : tSt I0 I' po gn := by
  refine ⟨zFr_tr h.1 (zFr_wk hF (by decide) (by decide)), fun w hw => ?_, fun w hw => ?_, ⟨?_, h.2.2.2.1.2⟩, hM, h.2.2.2.2.2⟩
  · rw [hF.1 180 (by decide) (by decide)]; exact h.2.1 w hw
  · unfold vPoss; rw [hF.1 180 (by decide) (by decide)]; exact h.2.2.1 w hw
  · rw [hF.2 40 (by decide)]; exact h.2.2.2.1.1
abbrev gw_X12_saying (d : Nat) (Q : zQt) (pc : Nat) (lv : zV) (st : List Value) (I : zI) (L : zL) (P : zP) : Prop := zW zm_X12_saying (zRm d 0 0) 0 0 Q pc lv st I L P 205 0 0
abbrev v_X12_saying (d : Nat) (Q : zQt) (p1 : Int32) (I : zI) (L : zL) (P : zP) : Prop :=
  vp_in (I 160 28) 2 ∧
  ((¬ (bP (¬ p1 < 0 ∧ ¬ ((I 165 (I 160 28).toNatClampNeg) - 1) < p1)) = 0 →
    vp_in (((6 : Int32) * (I 160 28)) + p1) 12 ∧
    zMv zm_X12_work d [.ref 160, .int (I 169 (((6 : Int32) * (I 160 28)) + p1).toNatClampNeg), .int (I 170 (((6 : Int32) * (I 160 28)) + p1).toNatClampNeg)] I L P (fun I6 L7 P8 =>
      zMi zm_X12_strike d [.ref 160] I6 L7 P8 (fun r15 I11 L12 P13 =>
        Q (some (.int r15)) I11 L12 P13 205
      )
    )
  ) ∧ ((bP (¬ p1 < 0 ∧ ¬ ((I 165 (I 160 28).toNatClampNeg) - 1) < p1)) = 0 →
    Q (some (.int (-1))) I L P 205
  ))
set_option maxRecDepth 20000 in
theorem g_X12_saying {d : Nat} {Q : zQt} {p1 : Int32} {I : zI} {L : zL} {P : zP} (hP : zPk P) (hv : v_X12_saying d Q p1 I L P) : zM zm_X12_saying (d + 1) 0 0 [.ref 160, .int p1] I L P 205 Q := by
  unfold v_X12_saying at hv
  refine zM_of (lv0 := [some (.ref 160), some (.int p1)]) (by decide +kernel) (Nat.le_of_ble_eq_true rfl) rfl ?_
  refine z_iload_n dX12_saying_0 rfl ?_
  refine z_iconst (v := 0) dX12_saying_1 (by decide) ?_
  refine z_aload_n dX12_saying_2 rfl ?_
  refine z_getP dX12_saying_3 zf_X12_27 zn_160 zo_160 (fun _ _ _ _ _ => rfl) (hP 160 13 165 zp_160_13) ?_
  refine z_aload_n dX12_saying_6 rfl ?_
  refine z_getI dX12_saying_7 zf_X12_261 zn_160 zo_160 (fun _ _ _ _ _ => rfl) ?_
  obtain ⟨h1, hv⟩ := hv
  refine z_iaload dX12_saying_10 zn_165 zh_165 h1 ?_
  refine z_iconst (v := 1) dX12_saying_11 (by decide) ?_
  refine z_isub dX12_saying_12 ?_
  refine z_callS (As := [.int p1, .int 0, .int ((I 165 (I 160 28).toNatClampNeg) - 1)]) (st := []) dX12_saying_13 zl_X12_342 zs_X12_isIn rfl rfl (Nat.le_of_ble_eq_true rfl) ⟨Nat.le_refl _, Nat.le_refl _⟩ ⟨Nat.le_refl _, Nat.le_refl _⟩ (sp_X12_isIn hP (K := fun r I' L' P' => bP (¬ p1 < 0 ∧ ¬ ((I 165 (I 160 28).toNatClampNeg) - 1) < p1) = r ∧ I = I' ∧ L = L' ∧ P = P') ⟨rfl, rfl, rfl, rfl⟩) (fun v1 I2 L2 P2 nx1 q3 => ?_)
  obtain ⟨rfl, r2, rfl, rfl, rfl, rfl, rfl⟩ := q3
  refine z_if_ne (tgt := 21) dX12_saying_16 (by decide) (fun q4 => ?_) (fun q4 => ?_)
  · have hv := hv.1 q4
    refine z_aload_n dX12_saying_21 rfl ?_
    refine z_aload_n dX12_saying_22 rfl ?_
    refine z_getP dX12_saying_23 zf_X12_39 zn_160 zo_160 (fun _ _ _ _ _ => rfl) (hP 160 17 169 zp_160_17) ?_
    refine z_bipush (v := 6) dX12_saying_26 (by decide) ?_
    refine z_aload_n dX12_saying_28 rfl ?_
    refine z_getI dX12_saying_29 zf_X12_261 zn_160 zo_160 (fun _ _ _ _ _ => rfl) ?_
    refine z_imul dX12_saying_32 ?_
    refine z_iload_n dX12_saying_33 rfl ?_
    refine z_iadd dX12_saying_34 ?_
    obtain ⟨h5, hv⟩ := hv
    refine z_iaload dX12_saying_35 zn_169 zh_169 h5 ?_
    refine z_aload_n dX12_saying_36 rfl ?_
    refine z_getP dX12_saying_37 zf_X12_42 zn_160 zo_160 (fun _ _ _ _ _ => rfl) (hP 160 18 170 zp_160_18) ?_
    refine z_bipush (v := 6) dX12_saying_40 (by decide) ?_
    refine z_aload_n dX12_saying_42 rfl ?_
    refine z_getI dX12_saying_43 zf_X12_261 zn_160 zo_160 (fun _ _ _ _ _ => rfl) ?_
    refine z_imul dX12_saying_46 ?_
    refine z_iload_n dX12_saying_47 rfl ?_
    refine z_iadd dX12_saying_48 ?_
    refine z_iaload dX12_saying_49 zn_170 zh_170 h5 ?_
    refine z_callV (As := [.int (I 169 (((6 : Int32) * (I 160 28)) + p1).toNatClampNeg), .int (I 170 (((6 : Int32) * (I 160 28)) + p1).toNatClampNeg)]) (st := []) dX12_saying_50 zl_X12_407 zv_X12_work (by decide) rfl zn_160 zo_160 rfl rfl (Nat.le_of_ble_eq_true rfl) ⟨Nat.le_refl _, Nat.le_refl _⟩ ⟨Nat.le_refl _, Nat.le_refl _⟩ hv (fun v1 I6 L7 P8 nx1 q9 => ?_)
    obtain ⟨rfl, rfl, hv⟩ := q9
    refine z_aload_n dX12_saying_53 rfl ?_
    refine z_callV (As := []) (st := []) dX12_saying_54 zl_X12_416 zv_X12_strike (by decide) rfl zn_160 zo_160 rfl rfl (Nat.le_of_ble_eq_true rfl) ⟨Nat.le_refl _, Nat.le_refl _⟩ ⟨Nat.le_refl _, Nat.le_refl _⟩ hv (fun v1 I11 L12 P13 nx1 q14 => ?_)
    obtain ⟨rfl, r15, rfl, hv⟩ := q14
    exact z_ireturn dX12_saying_57 rfl rfl (Nat.le_refl _) (Nat.le_refl _) hv
  · have hv := hv.2 q4
    refine z_iconst (v := (-1)) dX12_saying_19 (by decide) ?_
    exact z_ireturn dX12_saying_20 rfl rfl (Nat.le_refl _) (Nat.le_refl _) hv
theorem t_saying {i : Nat} (hP : zPk P) (hb : tB I0) (h : tSt I0 I po gn) (hi : i < vNs I0) (hd : 8 ≤ d) {K : Int32 → zI → zL → zP → Prop}
    (k0 : aRw I0 po gn (vSy I0 i) (vTw I0) = 0 → ∀ I', tSt I0 I' po gn → zFr (180 :: eC) [46] I I' → K (-1) I' L P)
    (k : ¬ aRw I0 po gn (vSy I0 i) (vTw I0) = 0 → ∀ I', tSt I0 I' (fun w => po w ∧ ¬ aRw I0 po gn (vSy I0 i) w = 0) gn → zFr (180 :: eC) [46] I I' → I' 160 46 = 0 → K (nI (cP (fun w => po w ∧ aRw I0 po gn (vSy I0 i) w = 0) (vN I0))) I' L P) : zMi zm_X12_saying d [.ref 160, .int (nI i)] I L P K := by
  obtain ⟨d, rfl⟩ : ∃ e, d = e + 1 := ⟨d - 1, by omega⟩
  have hE := t_ME hb h
  have eB := vB_fr h.1 (show 28 ∉ tL by decide)
  have e165 := h.1.1 165 (by decide) (by decide)
  have e169 := h.1.1 169 (by decide) (by decide)
  have e170 := h.1.1 170 (by decide) (by decide)
  obtain ⟨m1, m2, m3⟩ := hb.2.2
  obtain ⟨c1, c2, c3, c4⟩ := m3 i hi
  have hbk := hE.1.1.1
  have eN := t_N h
  have ei : (((6 : Int32) * (I 160 28)) + nI i) = nI (6 * vB I0 + i) := by rw [hE.1.1.2, show (6 : Int32) = nI 6 from rfl, pk_mul, nI_add, eB]
  have hin : vp_in (nI i) (vNs I0) := nx_in hi (by omega)
  have e165' : I 165 (I 160 28).toNatClampNeg = nI (vNs I0) := by
    show I 165 (vB I) = _
    rw [eB, e165, m2]
  refine g_X12_saying hP ⟨by rw [hE.1.1.2]; exact nx_in hbk (by decide), fun q => ⟨by rw [ei]; exact nx_in (by omega) (by decide), ?_⟩, fun q => ?_⟩
  · rw [ei, nI_cl (by omega), e169, e170, c1, c2]
    refine sp_X12_work hP hE (t_MO hb h) h.2.2.2.2.1 c3 ?_ (by omega) (fun I1 a1 a2 a3 => ?_)
    · rw [t_np h, vCd_c (h.1.1 175 (by decide) (by decide)) (h.1.1 176 (by decide) (by decide))]
      exact c4
    · have h1 := t_eF h a1 a2
      rw [vCd_c (h.1.1 175 (by decide) (by decide)) (h.1.1 176 (by decide) (by decide)), eN] at a3
      refine t_strike hP hb h1 (by omega) (r := aRw I0 po gn (vSy I0 i)) (fun w hw => ?_) (fun q => qi (k0 q I1 h1 (zFr_wk a1 (by decide) (by decide)))) (fun q I2 b1 b2 b3 => qi (k q I2 b1 ?_ b3))
      · rw [a3 w hw]
        exact t_row hb h c4 hw
      · exact zFr_tr (zFr_wk a1 (by decide) (by decide)) (zFr_wk b2 (by decide) (by decide))
  · rw [e165', bP_c (isIn_iff (by omega)), bP_0] at q
    exact absurd hin q
end TRY
/-! ===== when one goes ===== -/
/-- the night on which p goes; -1 if none -/
noncomputable def aWh (I : zI) (p : Nat) : Nat → Nat → (Nat → Prop) → Nat → Int32
  | 0, _, _, _ => -1
  | f + 1, n, po, gn => @ite _ ((aGs I po gn (vTw I)).testBit p = true) (Classical.propDecidable _) (nI (n + 1))
      (@ite _ (aGs I po gn (vTw I) = 0 ∧ cP (fun w => po w ∧ ¬ aGs I po gn w = aGs I po gn (vTw I)) (vN I) = 0) (Classical.propDecidable _) (-1) (aWh I p f (n + 1) (aPo I po gn) (aGn I po gn)))
theorem aWh_1 {I : zI} {p f n gn : Nat} {po : Nat → Prop} (h : (aGs I po gn (vTw I)).testBit p = true) : aWh I p (f + 1) n po gn = nI (n + 1) := if_pos h
theorem aWh_2 {I : zI} {p f n gn : Nat} {po : Nat → Prop} (h : ¬ (aGs I po gn (vTw I)).testBit p = true) (h2 : aGs I po gn (vTw I) = 0 ∧ cP (fun w => po w ∧ ¬ aGs I po gn w = aGs I po gn (vTw I)) (vN I) = 0) : aWh I p (f + 1) n po gn = -1 := (if_neg h).trans (if_pos h2)
theorem aWh_3 {I : zI} {p f n gn : Nat} {po : Nat → Prop} (h : ¬ (aGs I po gn (vTw I)).testBit p = true) (h2 : ¬ (aGs I po gn (vTw I) = 0 ∧ cP (fun w => po w ∧ ¬ aGs I po gn w = aGs I po gn (vTw I)) (vN I) = 0)) : aWh I p (f + 1) n po gn = aWh I p f (n + 1) (aPo I po gn) (aGn I po gn) := (if_neg h).trans (if_neg h2)
/-- what is left: worlds, and people on the island -/
noncomputable def aMu (I : zI) (po : Nat → Prop) (gn : Nat) : Nat := cP po (vN I) + cP (fun p => ¬ gn.testBit p = true) (vNp I)
theorem cP_lt {f g : Nat → Prop} : ∀ {n : Nat}, (∀ p, p < n → f p → g p) → (∃ p, p < n ∧ g p ∧ ¬ f p) → cP f n < cP g n
  | 0, _, h => by obtain ⟨p, hp, -⟩ := h; exact absurd hp (Nat.not_lt_zero p)
  | n + 1, h, ⟨p, hp, hg, hf⟩ => by
    have hle : cP f n ≤ cP g n := by
      by_cases hx : ∃ p, p < n ∧ g p ∧ ¬ f p
      · exact Nat.le_of_lt (cP_lt (fun p hp => h p (by omega)) hx)
      · refine Nat.le_of_eq (cP_c (fun p hp => ⟨h p (by omega), fun hg => Classical.byContradiction (fun hf => hx ⟨p, hp, hg, hf⟩)⟩))
    by_cases e : p = n
    · subst e
      rw [cP_t hg, cP_f hf]; omega
    · have ih := cP_lt (n := n) (fun p hp => h p (by omega)) ⟨p, by omega, hg, hf⟩
      by_cases hfn : f n
      · rw [cP_t hfn, cP_t (h n (by omega) hfn)]; omega
      · rw [cP_f hfn]
        by_cases hgn : g n
        · rw [cP_t hgn]; omega
        · rw [cP_f hgn]; exact ih
theorem cP_mono {f g : Nat → Prop} {n : Nat} (h : ∀ p, p < n → f p → g p) : cP f n ≤ cP g n := by
  by_cases hx : ∃ p, p < n ∧ g p ∧ ¬ f p
  · exact Nat.le_of_lt (cP_lt h hx)
  · refine Nat.le_of_eq (cP_c (fun p hp => ⟨h p hp, fun hg => Classical.byContradiction (fun hf => hx ⟨p, hp, hg, hf⟩)⟩))
theorem aMu_lt {I : zI} {po : Nat → Prop} {gn : Nat} (h : ¬ (aGs I po gn (vTw I) = 0 ∧ cP (fun w => po w ∧ ¬ aGs I po gn w = aGs I po gn (vTw I)) (vN I) = 0)) : aMu I (aPo I po gn) (aGn I po gn) < aMu I po gn := by
  unfold aMu
  have m1 : cP (aPo I po gn) (vN I) ≤ cP po (vN I) := cP_mono (fun w _ hw => hw.1)
  have m2 : cP (fun p => ¬ (aGn I po gn).testBit p = true) (vNp I) ≤ cP (fun p => ¬ gn.testBit p = true) (vNp I) := cP_mono (fun p _ hp hq => hp (by unfold aGn; rw [Nat.testBit_or, hq]; rfl))
  by_cases hz : aGs I po gn (vTw I) = 0
  · have hc : ¬ cP (fun w => po w ∧ ¬ aGs I po gn w = aGs I po gn (vTw I)) (vN I) = 0 := fun q => h ⟨hz, q⟩
    have : ∃ w, w < vN I ∧ po w ∧ ¬ aPo I po gn w := by
      refine Classical.byContradiction (fun q => hc (cP_0.mpr (fun w hw hx => q ⟨w, hw, hx.1, fun z => hx.2 z.2⟩)))
    have := cP_lt (f := aPo I po gn) (g := po) (fun w _ hw => hw.1) this
    omega
  · have : ∃ p, p < vNp I ∧ (¬ gn.testBit p = true) ∧ ¬ ¬ (aGn I po gn).testBit p = true := by
      refine Classical.byContradiction (fun q => hz (Nat.eq_of_testBit_eq (fun p => ?_)))
      rw [Nat.zero_testBit]
      refine Bool.eq_false_iff.mpr (fun hx => ?_)
      have hx2 := (bset_bit _ _ _).mp hx
      exact q ⟨p, hx2.1, hx2.2.1, fun z => z (by unfold aGn; rw [Nat.testBit_or, hx, Bool.or_true])⟩
    have := cP_lt (f := fun p => ¬ (aGn I po gn).testBit p = true) (g := fun p => ¬ gn.testBit p = true) (fun p _ hp hq => hp (by unfold aGn; rw [Nat.testBit_or, hq]; rfl)) this
    omega
theorem aMu_le {I : zI} (hB : MB I) (po : Nat → Prop) (gn : Nat) : aMu I po gn ≤ 264 := by
  have := vN_le hB
  have := hB.2.1
  have := cP_le po (vN I)
  have := cP_le (fun p => ¬ gn.testBit p = true) (vNp I)
  unfold aMu
  omega
abbrev gw_X12_when (d : Nat) (Q : zQt) (pc : Nat) (lv : zV) (st : List Value) (I : zI) (L : zL) (P : zP) : Prop := zW zm_X12_when (zRm d 0 0) 0 0 Q pc lv st I L P 205 0 0
abbrev v_X12_when_34 (d : Nat) (Q : zQt) (p1 : Int32) (x2 : Int32) (x3 : Int32) (x4 : Int32) (I : zI) (L : zL) (P : zP) : Prop :=
  ((x4 = 0 →
    zMv zm_X12_bring d [.ref 160, .int 3] I L P (fun I12 L13 P14 =>
      Q (some (.int x3)) I12 L13 P14 205
    )
  ) ∧ (¬ x4 = 0 →
    zMi zm_X12_oneNight d [.ref 160] I L P (fun r21 I17 L18 P19 =>
      ((¬ ((r21 >>> (p1 &&& 31) : Int32) &&& 1 : Int32) = 1 →
        ((0 ≤ x3 →
          gw_X12_when (d + 1) Q 34 [some (.ref 160), some (.int p1), some (.int (x2 + 1)), some (.int x3), some (.int 0), none] [] I17 L18 P19
        ) ∧ (¬ 0 ≤ x3 →
          ((¬ r21 = 0 →
            gw_X12_when (d + 1) Q 34 [some (.ref 160), some (.int p1), some (.int (x2 + 1)), some (.int x3), some (.int 1), none] [] I17 L18 P19
          ) ∧ (r21 = 0 →
            (((I17 160 48) ≤ 0 →
              gw_X12_when (d + 1) Q 34 [some (.ref 160), some (.int p1), some (.int (x2 + 1)), some (.int x3), some (.int 0), none] [] I17 L18 P19
            ) ∧ (¬ (I17 160 48) ≤ 0 →
              gw_X12_when (d + 1) Q 34 [some (.ref 160), some (.int p1), some (.int (x2 + 1)), some (.int x3), some (.int 1), none] [] I17 L18 P19
            ))
          ))
        ))
      ) ∧ (((r21 >>> (p1 &&& 31) : Int32) &&& 1 : Int32) = 1 →
        ((0 ≤ (x2 + 1) →
          gw_X12_when (d + 1) Q 34 [some (.ref 160), some (.int p1), some (.int (x2 + 1)), some (.int (x2 + 1)), some (.int 0), none] [] I17 L18 P19
        ) ∧ (¬ 0 ≤ (x2 + 1) →
          ((¬ r21 = 0 →
            gw_X12_when (d + 1) Q 34 [some (.ref 160), some (.int p1), some (.int (x2 + 1)), some (.int (x2 + 1)), some (.int 1), none] [] I17 L18 P19
          ) ∧ (r21 = 0 →
            (((I17 160 48) ≤ 0 →
              gw_X12_when (d + 1) Q 34 [some (.ref 160), some (.int p1), some (.int (x2 + 1)), some (.int (x2 + 1)), some (.int 0), none] [] I17 L18 P19
            ) ∧ (¬ (I17 160 48) ≤ 0 →
              gw_X12_when (d + 1) Q 34 [some (.ref 160), some (.int p1), some (.int (x2 + 1)), some (.int (x2 + 1)), some (.int 1), none] [] I17 L18 P19
            ))
          ))
        ))
      ))
    )
  ))
set_option maxRecDepth 20000 in
theorem g_X12_when_34 {d : Nat} {Q : zQt} {p1 : Int32} {x2 : Int32} {x3 : Int32} {x4 : Int32} {I : zI} {L : zL} {P : zP} (hP : zPk P) (hd : 1 ≤ d) (hv : v_X12_when_34 d Q p1 x2 x3 x4 I L P) : gw_X12_when (d + 1) Q 34 [some (.ref 160), some (.int p1), some (.int x2), some (.int x3), some (.int x4), none] [] I L P := by
  unfold v_X12_when_34 at hv
  refine z_iload dX12_when_34 rfl ?_
  refine z_if_eq (tgt := 86) dX12_when_36 (by decide) (fun q11 => ?_) (fun q11 => ?_)
  · have hv := hv.1 q11
    refine z_aload_n dX12_when_86 rfl ?_
    refine z_iconst (v := 3) dX12_when_87 (by decide) ?_
    refine z_callV (As := [.int 3]) (st := []) dX12_when_88 zl_X12_431 zv_X12_bring (by decide) rfl zn_160 zo_160 rfl rfl (Nat.le_of_ble_eq_true rfl) ⟨Nat.le_refl _, Nat.le_refl _⟩ ⟨Nat.le_refl _, Nat.le_refl _⟩ hv (fun v1 I12 L13 P14 nx1 q15 => ?_)
    obtain ⟨rfl, rfl, hv⟩ := q15
    refine z_iload_n dX12_when_91 rfl ?_
    exact z_ireturn dX12_when_92 rfl rfl (Nat.le_refl _) (Nat.le_refl _) hv
  · have hv := hv.2 q11
    refine z_iinc (v2 := x2 + 1) (lv2 := [some (.ref 160), some (.int p1), some (.int (x2 + 1)), some (.int x3), some (.int x4), none]) dX12_when_39 rfl (by rfl) (by decide) rfl rfl ?_
    refine z_aload_n dX12_when_42 rfl ?_
    refine z_callV (As := []) (st := []) dX12_when_43 zl_X12_425 zv_X12_oneNight (by decide) rfl zn_160 zo_160 rfl rfl (Nat.le_of_ble_eq_true rfl) ⟨Nat.le_refl _, Nat.le_refl _⟩ ⟨Nat.le_refl _, Nat.le_refl _⟩ hv (fun v1 I17 L18 P19 nx1 q20 => ?_)
    obtain ⟨rfl, r21, rfl, hv⟩ := q20
    refine z_istore (lv2 := [some (.ref 160), some (.int p1), some (.int (x2 + 1)), some (.int x3), some (.int x4), some (.int r21)]) dX12_when_46 (by decide) rfl rfl ?_
    refine z_iload dX12_when_48 rfl ?_
    refine z_iload_n dX12_when_50 rfl ?_
    refine z_ishr dX12_when_51 ?_
    refine z_iconst (v := 1) dX12_when_52 (by decide) ?_
    refine z_iand dX12_when_53 ?_
    refine z_iconst (v := 1) dX12_when_54 (by decide) ?_
    refine z_icmp_ne (tgt := 60) dX12_when_55 (by decide) (fun q22 => ?_) (fun q22 => ?_)
    · have hv := hv.1 q22
      refine z_iload_n dX12_when_60 rfl ?_
      refine z_if_ge (tgt := 80) dX12_when_61 (by decide) (fun q23 => ?_) (fun q23 => ?_)
      · have hv := hv.1 q23
        refine z_iconst (v := 0) dX12_when_80 (by decide) ?_
        refine z_istore (lv2 := [some (.ref 160), some (.int p1), some (.int (x2 + 1)), some (.int x3), some (.int 0), some (.int r21)]) dX12_when_81 (by decide) rfl rfl ?_
        refine z_goto (tgt := 34) dX12_when_83 (by decide) ?_
        exact z_sub (by exact ⟨rfl, ⟨rfl, ⟨rfl, ⟨rfl, ⟨rfl, trivial⟩⟩⟩⟩⟩) hv
      · have hv := hv.2 q23
        refine z_iload dX12_when_64 rfl ?_
        refine z_if_ne (tgt := 76) dX12_when_66 (by decide) (fun q24 => ?_) (fun q24 => ?_)
        · have hv := hv.1 q24
          refine z_iconst (v := 1) dX12_when_76 (by decide) ?_
          refine z_goto (tgt := 81) dX12_when_77 (by decide) ?_
          refine z_istore (lv2 := [some (.ref 160), some (.int p1), some (.int (x2 + 1)), some (.int x3), some (.int 1), some (.int r21)]) dX12_when_81 (by decide) rfl rfl ?_
          refine z_goto (tgt := 34) dX12_when_83 (by decide) ?_
          exact z_sub (by exact ⟨rfl, ⟨rfl, ⟨rfl, ⟨rfl, ⟨rfl, trivial⟩⟩⟩⟩⟩) hv
        · have hv := hv.2 q24
          refine z_aload_n dX12_when_69 rfl ?_
          refine z_getI dX12_when_70 zf_X12_422 zn_160 zo_160 (fun _ _ _ _ _ => rfl) ?_
          refine z_if_le (tgt := 80) dX12_when_73 (by decide) (fun q25 => ?_) (fun q25 => ?_)
          · have hv := hv.1 q25
            refine z_iconst (v := 0) dX12_when_80 (by decide) ?_
            refine z_istore (lv2 := [some (.ref 160), some (.int p1), some (.int (x2 + 1)), some (.int x3), some (.int 0), some (.int r21)]) dX12_when_81 (by decide) rfl rfl ?_
            refine z_goto (tgt := 34) dX12_when_83 (by decide) ?_
            exact z_sub (by exact ⟨rfl, ⟨rfl, ⟨rfl, ⟨rfl, ⟨rfl, trivial⟩⟩⟩⟩⟩) hv
          · have hv := hv.2 q25
            refine z_iconst (v := 1) dX12_when_76 (by decide) ?_
            refine z_goto (tgt := 81) dX12_when_77 (by decide) ?_
            refine z_istore (lv2 := [some (.ref 160), some (.int p1), some (.int (x2 + 1)), some (.int x3), some (.int 1), some (.int r21)]) dX12_when_81 (by decide) rfl rfl ?_
            refine z_goto (tgt := 34) dX12_when_83 (by decide) ?_
            exact z_sub (by exact ⟨rfl, ⟨rfl, ⟨rfl, ⟨rfl, ⟨rfl, trivial⟩⟩⟩⟩⟩) hv
    · have hv := hv.2 q22
      refine z_iload_n dX12_when_58 rfl ?_
      refine z_istore_n (lv2 := [some (.ref 160), some (.int p1), some (.int (x2 + 1)), some (.int (x2 + 1)), some (.int x4), some (.int r21)]) dX12_when_59 (by decide) rfl rfl ?_
      refine z_iload_n dX12_when_60 rfl ?_
      refine z_if_ge (tgt := 80) dX12_when_61 (by decide) (fun q26 => ?_) (fun q26 => ?_)
      · have hv := hv.1 q26
        refine z_iconst (v := 0) dX12_when_80 (by decide) ?_
        refine z_istore (lv2 := [some (.ref 160), some (.int p1), some (.int (x2 + 1)), some (.int (x2 + 1)), some (.int 0), some (.int r21)]) dX12_when_81 (by decide) rfl rfl ?_
        refine z_goto (tgt := 34) dX12_when_83 (by decide) ?_
        exact z_sub (by exact ⟨rfl, ⟨rfl, ⟨rfl, ⟨rfl, ⟨rfl, trivial⟩⟩⟩⟩⟩) hv
      · have hv := hv.2 q26
        refine z_iload dX12_when_64 rfl ?_
        refine z_if_ne (tgt := 76) dX12_when_66 (by decide) (fun q27 => ?_) (fun q27 => ?_)
        · have hv := hv.1 q27
          refine z_iconst (v := 1) dX12_when_76 (by decide) ?_
          refine z_goto (tgt := 81) dX12_when_77 (by decide) ?_
          refine z_istore (lv2 := [some (.ref 160), some (.int p1), some (.int (x2 + 1)), some (.int (x2 + 1)), some (.int 1), some (.int r21)]) dX12_when_81 (by decide) rfl rfl ?_
          refine z_goto (tgt := 34) dX12_when_83 (by decide) ?_
          exact z_sub (by exact ⟨rfl, ⟨rfl, ⟨rfl, ⟨rfl, ⟨rfl, trivial⟩⟩⟩⟩⟩) hv
        · have hv := hv.2 q27
          refine z_aload_n dX12_when_69 rfl ?_
          refine z_getI dX12_when_70 zf_X12_422 zn_160 zo_160 (fun _ _ _ _ _ => rfl) ?_
          refine z_if_le (tgt := 80) dX12_when_73 (by decide) (fun q28 => ?_) (fun q28 => ?_)
          · have hv := hv.1 q28
            refine z_iconst (v := 0) dX12_when_80 (by decide) ?_
            refine z_istore (lv2 := [some (.ref 160), some (.int p1), some (.int (x2 + 1)), some (.int (x2 + 1)), some (.int 0), some (.int r21)]) dX12_when_81 (by decide) rfl rfl ?_
            refine z_goto (tgt := 34) dX12_when_83 (by decide) ?_
            exact z_sub (by exact ⟨rfl, ⟨rfl, ⟨rfl, ⟨rfl, ⟨rfl, trivial⟩⟩⟩⟩⟩) hv
          · have hv := hv.2 q28
            refine z_iconst (v := 1) dX12_when_76 (by decide) ?_
            refine z_goto (tgt := 81) dX12_when_77 (by decide) ?_
            refine z_istore (lv2 := [some (.ref 160), some (.int p1), some (.int (x2 + 1)), some (.int (x2 + 1)), some (.int 1), some (.int r21)]) dX12_when_81 (by decide) rfl rfl ?_
            refine z_goto (tgt := 34) dX12_when_83 (by decide) ?_
            exact z_sub (by exact ⟨rfl, ⟨rfl, ⟨rfl, ⟨rfl, ⟨rfl, trivial⟩⟩⟩⟩⟩) hv
abbrev v_X12_when (d : Nat) (Q : zQt) (p1 : Int32) (I : zI) (L : zL) (P : zP) : Prop :=
  MB I ∧
  (((bP (vp_in p1 (vNp I))) = 0 →
    Q (some (.int (-1))) I L P 205
  ) ∧ (¬ (bP (vp_in p1 (vNp I))) = 0 →
    ((¬ (((I 160 40) >>> (p1 &&& 31) : Int32) &&& 1 : Int32) = 1 →
      zMv zm_X12_keep d [.ref 160, .int 3] I L P (fun I6 L7 P8 =>
        gw_X12_when (d + 1) Q 34 [some (.ref 160), some (.int p1), some (.int 0), some (.int (-1)), some (.int 1), none] [] I6 L7 P8
      )
    ) ∧ ((((I 160 40) >>> (p1 &&& 31) : Int32) &&& 1 : Int32) = 1 →
      Q (some (.int (-1))) I L P 205
    ))
  ))
set_option maxRecDepth 20000 in
theorem g_X12_when {d : Nat} {Q : zQt} {p1 : Int32} {I : zI} {L : zL} {P : zP} (hP : zPk P) (hd : 1 ≤ d) (hv : v_X12_when d Q p1 I L P) : zM zm_X12_when (d + 1) 0 0 [.ref 160, .int p1] I L P 205 Q := by
  unfold v_X12_when at hv
  refine zM_of (lv0 := [some (.ref 160), some (.int p1), none, none, none, none]) (by decide +kernel) (Nat.le_of_ble_eq_true rfl) rfl ?_
  refine z_aload_n dX12_when_0 rfl ?_
  refine z_iload_n dX12_when_1 rfl ?_
  obtain ⟨h1, hv⟩ := hv
  refine z_callV (As := [.int p1]) (st := []) dX12_when_2 zl_X12_365 zv_X12_isOne (by decide) rfl zn_160 zo_160 rfl rfl (Nat.le_of_ble_eq_true rfl) ⟨Nat.le_refl _, Nat.le_refl _⟩ ⟨Nat.le_refl _, Nat.le_refl _⟩ (sp_X12_isOne hP h1 (by omega) (K := fun r I' L' P' => bP (vp_in p1 (vNp I)) = r ∧ I = I' ∧ L = L' ∧ P = P') ⟨rfl, rfl, rfl, rfl⟩) (fun v1 I2 L2 P2 nx1 q3 => ?_)
  obtain ⟨rfl, r2, rfl, rfl, rfl, rfl, rfl⟩ := q3
  refine z_if_eq (tgt := 20) dX12_when_5 (by decide) (fun q4 => ?_) (fun q4 => ?_)
  · have hv := hv.1 q4
    refine z_iconst (v := (-1)) dX12_when_20 (by decide) ?_
    exact z_ireturn dX12_when_21 rfl rfl (Nat.le_refl _) (Nat.le_refl _) hv
  · have hv := hv.2 q4
    refine z_aload_n dX12_when_8 rfl ?_
    refine z_getI dX12_when_9 zf_X12_359 zn_160 zo_160 (fun _ _ _ _ _ => rfl) ?_
    refine z_iload_n dX12_when_12 rfl ?_
    refine z_ishr dX12_when_13 ?_
    refine z_iconst (v := 1) dX12_when_14 (by decide) ?_
    refine z_iand dX12_when_15 ?_
    refine z_iconst (v := 1) dX12_when_16 (by decide) ?_
    refine z_icmp_ne (tgt := 22) dX12_when_17 (by decide) (fun q5 => ?_) (fun q5 => ?_)
    · have hv := hv.1 q5
      refine z_aload_n dX12_when_22 rfl ?_
      refine z_iconst (v := 3) dX12_when_23 (by decide) ?_
      refine z_callV (As := [.int 3]) (st := []) dX12_when_24 zl_X12_428 zv_X12_keep (by decide) rfl zn_160 zo_160 rfl rfl (Nat.le_of_ble_eq_true rfl) ⟨Nat.le_refl _, Nat.le_refl _⟩ ⟨Nat.le_refl _, Nat.le_refl _⟩ hv (fun v1 I6 L7 P8 nx1 q9 => ?_)
      obtain ⟨rfl, rfl, hv⟩ := q9
      refine z_iconst (v := 0) dX12_when_27 (by decide) ?_
      refine z_istore_n (lv2 := [some (.ref 160), some (.int p1), some (.int 0), none, none, none]) dX12_when_28 (by decide) rfl rfl ?_
      refine z_iconst (v := (-1)) dX12_when_29 (by decide) ?_
      refine z_istore_n (lv2 := [some (.ref 160), some (.int p1), some (.int 0), some (.int (-1)), none, none]) dX12_when_30 (by decide) rfl rfl ?_
      refine z_iconst (v := 1) dX12_when_31 (by decide) ?_
      refine z_istore (lv2 := [some (.ref 160), some (.int p1), some (.int 0), some (.int (-1)), some (.int 1), none]) dX12_when_32 (by decide) rfl rfl ?_
      exact hv
    · have hv := hv.2 q5
      refine z_iconst (v := (-1)) dX12_when_20 (by decide) ?_
      exact z_ireturn dX12_when_21 rfl rfl (Nat.le_refl _) (Nat.le_refl _) hv
theorem lp_X12_when {d : Nat} {Q : zQt} {I0 : zI} {L : zL} {P : zP} {p : Nat} (hP : zPk P) (hb : tB I0) (hp : p < vNp I0) (hd : 5 ≤ d) {res : Int32}
    (k : ∀ I po gn, tSt I0 I po gn → zMv zm_X12_bring d [.ref 160, .int 3] I L P (fun I1 L1 P1 => Q (some (.int res)) I1 L1 P1 205)) :
    ∀ f n I po gn, n + f ≤ 300 → aMu I0 po gn < f → tSt I0 I po gn → aWh I0 p f n po gn = res →
      gw_X12_when (d + 1) Q 34 [some (.ref 160), some (.int (nI p)), some (.int (nI n)), some (.int (-1)), some (.int 1), none] [] I L P := by
  have hnp := hb.1.1.2.1
  intro f
  induction f with
  | zero => intro n I po gn _ hm; exact absurd hm (Nat.not_lt_zero _)
  | succ f ih =>
    intro n I po gn hn hm ht hres
    have fin : ∀ (I1 : zI) (po1 : Nat → Prop) (gn1 : Nat) (x2 : Int32) (x3 : Int32), tSt I0 I1 po1 gn1 → x3 = res → gw_X12_when (d + 1) Q 34 [some (.ref 160), some (.int (nI p)), some (.int x2), some (.int x3), some (.int 0), none] [] I1 L P := by
      intro I1 po1 gn1 x2 x3 h1 e
      subst e
      exact g_X12_when_34 hP (by omega) ⟨fun _ => k I1 po1 gn1 h1, fun q => absurd rfl q⟩
    refine g_X12_when_34 hP (by omega) ⟨fun q => absurd q (by decide), fun _ => t_night hP hb ht hd (fun I1 h1 h48 h39 => ⟨fun q => ⟨fun q2 => absurd q2 (by decide), fun _ => ⟨fun q3 => ?_, fun q3 => ⟨fun q4 => ?_, fun q4 => ?_⟩⟩⟩, fun q => ⟨fun _ => ?_, fun q2 => absurd (by rw [nI_1]; exact nI_pos' (by omega)) q2⟩⟩)⟩
    · have hg := aGs_lt hb.1.1 po gn (vTw I0)
      rw [nx_bit1 (by omega) (by omega)] at q
      rw [nI_zero (by omega)] at q3
      rw [nI_1]
      have hc : ¬ (aGs I0 po gn (vTw I0) = 0 ∧ cP (fun w => po w ∧ ¬ aGs I0 po gn w = aGs I0 po gn (vTw I0)) (vN I0) = 0) := fun h => q3 h.1
      refine ih (n + 1) I1 _ _ (by omega) (by have := aMu_lt hc; omega) h1 ?_
      rw [← hres, aWh_3 q hc]
    · have hg := aGs_lt hb.1.1 po gn (vTw I0)
      rw [nx_bit1 (by omega) (by omega)] at q
      rw [nI_zero (by omega)] at q3
      have hcc := cP_le (fun w => po w ∧ ¬ aGs I0 po gn w = aGs I0 po gn (vTw I0)) (vN I0)
      have hN := vN_le hb.1.1
      rw [h48, show (0 : Int32) = nI 0 from rfl, nI_leI (by omega) (by decide)] at q4
      refine fin I1 _ _ _ (-1) h1 ?_
      rw [← hres, aWh_2 q ⟨q3, by omega⟩]
    · have hg := aGs_lt hb.1.1 po gn (vTw I0)
      rw [nx_bit1 (by omega) (by omega)] at q
      have hcc := cP_le (fun w => po w ∧ ¬ aGs I0 po gn w = aGs I0 po gn (vTw I0)) (vN I0)
      have hN := vN_le hb.1.1
      rw [h48, show (0 : Int32) = nI 0 from rfl, nI_leI (by omega) (by decide)] at q4
      rw [nI_1]
      have hc : ¬ (aGs I0 po gn (vTw I0) = 0 ∧ cP (fun w => po w ∧ ¬ aGs I0 po gn w = aGs I0 po gn (vTw I0)) (vN I0) = 0) := fun h => by have := h.2; omega
      refine ih (n + 1) I1 _ _ (by omega) (by have := aMu_lt hc; omega) h1 ?_
      rw [← hres, aWh_3 q hc]
    · have hg := aGs_lt hb.1.1 po gn (vTw I0)
      rw [nx_bit1 (by omega) (by omega)] at q
      rw [nI_1]
      refine fin I1 _ _ _ _ h1 ?_
      rw [← hres, aWh_1 q]
