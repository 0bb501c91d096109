/-! ===== the tokens of a text ===== -/
noncomputable def rnF (p : Nat → Prop) (n : Nat) : Nat → Nat → Nat
  | 0, e => e
  | f + 1, e => @ite _ (e < n ∧ p e) (Classical.propDecidable _) (rnF p n f (e + 1)) e
/-- the first place from e where p ends -/
noncomputable def rn (p : Nat → Prop) (n e : Nat) : Nat := rnF p n (n - e) e
theorem rn_s {p : Nat → Prop} {n e : Nat} (h : e < n) (hp : p e) : rn p n e = rn p n (e + 1) := by
  unfold rn
  rw [show n - e = (n - (e + 1)) + 1 by omega]
  show @ite _ (e < n ∧ p e) (Classical.propDecidable _) _ _ = _
  rw [if_pos ⟨h, hp⟩]
theorem rn_0 {p : Nat → Prop} {n e : Nat} (h : ¬ (e < n ∧ p e)) : rn p n e = e := by
  unfold rn
  cases n - e with
  | zero => rfl
  | succ f =>
    show @ite _ (e < n ∧ p e) (Classical.propDecidable _) _ _ = _
    rw [if_neg h]
theorem rn_all {p : Nat → Prop} {n : Nat} : ∀ f e, n - e = f → e ≤ rn p n e ∧ (e ≤ n → rn p n e ≤ n) ∧ (∀ k, e ≤ k → k < rn p n e → k < n ∧ p k) ∧ ¬ (rn p n e < n ∧ p (rn p n e)) := by
  intro f
  induction f with
  | zero =>
    intro e he
    have h : ¬ (e < n ∧ p e) := fun z => by have := z.1; omega
    rw [rn_0 h]
    exact ⟨Nat.le_refl _, fun z => z, fun k h1 h2 => absurd h2 (by omega), h⟩
  | succ f ih =>
    intro e he
    by_cases h : e < n ∧ p e
    · obtain ⟨a, b, c, d⟩ := ih (e + 1) (by omega)
      rw [rn_s h.1 h.2]
      refine ⟨by omega, fun _ => b h.1, fun k h1 h2 => ?_, d⟩
      by_cases q : k = e
      · subst q; exact h
      · exact c k (by omega) h2
    · rw [rn_0 h]
      exact ⟨Nat.le_refl _, fun z => z, fun k h1 h2 => absurd h2 (by omega), h⟩
theorem rn_ge (p : Nat → Prop) (n e : Nat) : e ≤ rn p n e := (rn_all _ e rfl).1
theorem rn_le (p : Nat → Prop) {n e : Nat} (h : e ≤ n) : rn p n e ≤ n := (rn_all _ e rfl).2.1 h
theorem rn_end (p : Nat → Prop) (n e : Nat) : ¬ (rn p n e < n ∧ p (rn p n e)) := (rn_all _ e rfl).2.2.2
def isBl (x : Int32) : Prop := x = 32 ∨ x = 10
section TOK
variable (T : Nat → Int32) (n : Nat)
noncomputable def tA (e : Nat) : Nat := rn (fun k => isBl (T k)) n e
/-- the letters from a, eight bits each -/
def wV (a : Nat) : Nat → Int64
  | 0 => 0
  | m + 1 => ((wV a m <<< ((8 : Int32).toInt64 &&& 63) : Int64) ||| (T (a + m)).toInt64 : Int64)
def dV (a : Nat) : Nat → Int32
  | 0 => 0
  | m + 1 => (10 * dV a m + T (a + m)) - 48
noncomputable def tE (e : Nat) : Nat :=
  @ite _ (n ≤ tA T n e) (Classical.propDecidable _) n
    (@ite _ (isLt (T (tA T n e))) (Classical.propDecidable _) (rn (fun k => isLt (T k)) n (tA T n e))
      (@ite _ (isDg (T (tA T n e))) (Classical.propDecidable _) (rn (fun k => isDg (T k)) n (tA T n e)) (tA T n e + 1)))
def wIx (v : Int64) : Nat := if v ∈ wdL then 256 + wdL.idxOf v else 273
noncomputable def tK (e : Nat) : Nat :=
  @ite _ (n ≤ tA T n e) (Classical.propDecidable _) 275
    (@ite _ (isLt (T (tA T n e))) (Classical.propDecidable _) (@ite _ (8 < tE T n e - tA T n e) (Classical.propDecidable _) 276 (wIx (wV T (tA T n e) (tE T n e - tA T n e))))
      (@ite _ (isDg (T (tA T n e))) (Classical.propDecidable _) (@ite _ (4 < tE T n e - tA T n e ∨ (tE T n e < n ∧ isLt (T (tE T n e)))) (Classical.propDecidable _) 276 274)
        (@ite _ (T (tA T n e) ∈ sgL) (Classical.propDecidable _) (T (tA T n e)).toNatClampNeg 276)))
noncomputable def tV (e : Nat) : Int64 := wV T (tA T n e) (tE T n e - tA T n e)
noncomputable def tN (e : Nat) : Int32 := dV T (tA T n e) (tE T n e - tA T n e)
variable {T n}
theorem tE_0 {e : Nat} (h : n ≤ tA T n e) : tE T n e = n ∧ tK T n e = 275 := ⟨if_pos h, if_pos h⟩
theorem tE_l {e : Nat} (h : ¬ n ≤ tA T n e) (h1 : isLt (T (tA T n e))) : tE T n e = rn (fun k => isLt (T k)) n (tA T n e) ∧ (8 < tE T n e - tA T n e → tK T n e = 276) ∧ (¬ 8 < tE T n e - tA T n e → tK T n e = wIx (tV T n e)) :=
  ⟨(if_neg h).trans (if_pos h1), fun q => (if_neg h).trans ((if_pos h1).trans (if_pos q)), fun q => (if_neg h).trans ((if_pos h1).trans (if_neg q))⟩
theorem tE_d {e : Nat} (h : ¬ n ≤ tA T n e) (h1 : ¬ isLt (T (tA T n e))) (h2 : isDg (T (tA T n e))) : tE T n e = rn (fun k => isDg (T k)) n (tA T n e) ∧ ((4 < tE T n e - tA T n e ∨ (tE T n e < n ∧ isLt (T (tE T n e)))) → tK T n e = 276) ∧ (¬ (4 < tE T n e - tA T n e ∨ (tE T n e < n ∧ isLt (T (tE T n e)))) → tK T n e = 274) :=
  ⟨(if_neg h).trans ((if_neg h1).trans (if_pos h2)), fun q => (if_neg h).trans ((if_neg h1).trans ((if_pos h2).trans (if_pos q))), fun q => (if_neg h).trans ((if_neg h1).trans ((if_pos h2).trans (if_neg q)))⟩
theorem tE_s {e : Nat} (h : ¬ n ≤ tA T n e) (h1 : ¬ isLt (T (tA T n e))) (h2 : ¬ isDg (T (tA T n e))) : tE T n e = tA T n e + 1 ∧ (T (tA T n e) ∈ sgL → tK T n e = (T (tA T n e)).toNatClampNeg) ∧ (¬ T (tA T n e) ∈ sgL → tK T n e = 276) :=
  ⟨(if_neg h).trans ((if_neg h1).trans (if_neg h2)), fun q => (if_neg h).trans ((if_neg h1).trans ((if_neg h2).trans (if_pos q))), fun q => (if_neg h).trans ((if_neg h1).trans ((if_neg h2).trans (if_neg q)))⟩
end TOK
/-- the model's number of a kind of token -/
def tCd (k : Nat) : Int32 := if k = 275 then 0 else if k = 276 then 1 else if k = 273 then 2 else if k = 274 then 4 else if 256 ≤ k then 3 else 5
theorem wIx_t {v : Int64} (h : v ∈ wdL) : tCd (wIx v) = 3 ∧ 256 ≤ wIx v ∧ wIx v < 273 := by
  have : wdL.idxOf v < 17 := List.idxOf_lt_length_of_mem h
  unfold wIx
  rw [if_pos h]
  unfold tCd
  refine ⟨?_, by omega, by omega⟩
  rw [if_neg (by omega), if_neg (by omega), if_neg (by omega), if_neg (by omega), if_pos (by omega)]
theorem wIx_f {v : Int64} (h : ¬ v ∈ wdL) : wIx v = 273 := if_neg h
theorem sg_cd {x : Int32} (h : x ∈ sgL) : tCd x.toNatClampNeg = 5 ∧ x.toNatClampNeg < 64 ∧ x = nI x.toNatClampNeg := by
  revert h; revert x; decide
/-- the text that is read -/
def vSz (I : zI) : Nat := (I 160 3).toNatClampNeg
def vTx (I : zI) (k : Nat) : Int32 := (I 162 k &&& 255 : Int32)
def MX (I : zI) : Prop := vSz I ≤ 1600 ∧ I 160 3 = nI (vSz I)
theorem sg_in {I0 I : zI} {sl : List Nat} (hf : zFr [] sl I0 I) (h3 : 3 ∉ sl) (hX : MX I0) {k : Nat} (hk : k < 2 ^ 31) : pSg I (nI k) ∧ (k < vSz I0 → sSg I (nI k) = vTx I0 k) ∧ (¬ k < vSz I0 → sSg I (nI k) = 0) := by
  obtain ⟨x1, x2⟩ := hX
  unfold pSg sSg vTx
  rw [hf.2 3 h3, x2, hf.1 162 (by decide) (by decide), nI_cl hk]
  have h : nI (vSz I0) ≤ nI k ↔ vSz I0 ≤ k := nI_leI (by omega) hk
  refine ⟨fun q => nx_in (by rw [h] at q; omega) (by decide), fun q => if_neg (by rw [h]; omega), fun q => if_pos (by rw [h]; omega)⟩
noncomputable abbrev xT (I0 : zI) (e : Nat) : Nat := tA (vTx I0) (vSz I0) e
noncomputable abbrev xE (I0 : zI) (e : Nat) : Nat := tE (vTx I0) (vSz I0) e
noncomputable abbrev xK (I0 : zI) (e : Nat) : Nat := tK (vTx I0) (vSz I0) e
noncomputable abbrev xV (I0 : zI) (e : Nat) : Int64 := tV (vTx I0) (vSz I0) e
noncomputable abbrev xN (I0 : zI) (e : Nat) : Int32 := tN (vTx I0) (vSz I0) e
section XX
variable {I0 : zI} {e : Nat}
theorem xE_0 (h : vSz I0 ≤ xT I0 e) : xE I0 e = vSz I0 ∧ xK I0 e = 275 := tE_0 h
theorem xE_l (h : ¬ vSz I0 ≤ xT I0 e) (h1 : isLt (vTx I0 (xT I0 e))) : xE I0 e = rn (fun k => isLt (vTx I0 k)) (vSz I0) (xT I0 e) ∧ (8 < xE I0 e - xT I0 e → xK I0 e = 276) ∧ (¬ 8 < xE I0 e - xT I0 e → xK I0 e = wIx (xV I0 e)) := tE_l h h1
theorem xE_d (h : ¬ vSz I0 ≤ xT I0 e) (h1 : ¬ isLt (vTx I0 (xT I0 e))) (h2 : isDg (vTx I0 (xT I0 e))) : xE I0 e = rn (fun k => isDg (vTx I0 k)) (vSz I0) (xT I0 e) ∧ ((4 < xE I0 e - xT I0 e ∨ (xE I0 e < vSz I0 ∧ isLt (vTx I0 (xE I0 e)))) → xK I0 e = 276) ∧ (¬ (4 < xE I0 e - xT I0 e ∨ (xE I0 e < vSz I0 ∧ isLt (vTx I0 (xE I0 e)))) → xK I0 e = 274) := tE_d h h1 h2
theorem xE_s (h : ¬ vSz I0 ≤ xT I0 e) (h1 : ¬ isLt (vTx I0 (xT I0 e))) (h2 : ¬ isDg (vTx I0 (xT I0 e))) : xE I0 e = xT I0 e + 1 ∧ (vTx I0 (xT I0 e) ∈ sgL → xK I0 e = (vTx I0 (xT I0 e)).toNatClampNeg) ∧ (¬ vTx I0 (xT I0 e) ∈ sgL → xK I0 e = 276) := tE_s h h1 h2
end XX
/-- the token that begins at e is read -/
def MK (I0 I : zI) (L : zL) (e : Nat) : Prop := I 160 6 = nI (xT I0 e) ∧ I 160 7 = nI (xE I0 e) ∧ I 160 8 = tCd (xK I0 e) ∧
  (256 ≤ xK I0 e → xK I0 e ≤ 273 → L 160 10 = xV I0 e) ∧ (xK I0 e = 274 → I 160 9 = xN I0 e)
/-- of the longs the name alone has changed -/
def zLn (L L' : zL) : Prop := ∀ a j, ¬ (a = 160 ∧ j = 10) → L' a j = L a j
theorem zLn_rf (L : zL) : zLn L L := fun _ _ _ => rfl
theorem zLn_tr {L L' L'' : zL} (h : zLn L L') (h' : zLn L' L'') : zLn L L'' := fun a j q => (h' a j q).trans (h a j q)
theorem zuL_v (L : zL) (a k : Nat) (v : Int64) : zuL L a k v a k = v := by rw [zuL_at]; unfold vp_updL; exact if_pos rfl
theorem zuL_o {L : zL} {a k j : Nat} {v : Int64} (h : j ≠ k) : zuL L a k v a j = L a j := by rw [zuL_at]; unfold vp_updL; exact if_neg h
theorem zLn_u (L : zL) (v : Int64) : zLn L (zuL L 160 10 v) := by
  intro a j q
  by_cases h : a = 160
  · subst h; rw [zuL_o (fun z => q ⟨rfl, z⟩)]
  · rw [zuL_ne h]
abbrev gw_X12_goOn (d : Nat) (Q : zQt) (pc : Nat) (lv : zV) (st : List Value) (I : zI) (L : zL) (P : zP) : Prop := zW zm_X12_goOn (zRm d 0 0) 0 0 Q pc lv st I L P 205 0 0
abbrev v_X12_goOn_259 (d : Nat) (Q : zQt)  (I : zI) (L : zL) (P : zP) : Prop :=
  pSg I (I 160 7) ∧
  (((bP (isDg (sSg I (I 160 7)))) = 0 →
    ((4 < ((I 160 7) - (I 160 6)) →
      ∀ I79 : zI, I79 = zuI I 160 8 1 →
      Q none I79 L P 205
    ) ∧ (¬ 4 < ((I 160 7) - (I 160 6)) →
      (((bP (isLt (sSg I (I 160 7)))) = 0 →
        ∀ I86 : zI, I86 = zuI I 160 8 4 →
        Q none I86 L P 205
      ) ∧ (¬ (bP (isLt (sSg I (I 160 7)))) = 0 →
        ∀ I88 : zI, I88 = zuI I 160 8 1 →
        Q none I88 L P 205
      ))
    ))
  ) ∧ (¬ (bP (isDg (sSg I (I 160 7)))) = 0 →
    ((4 ≤ ((I 160 7) - (I 160 6)) →
      ∀ I91 : zI, I91 = zuI I 160 7 ((I 160 7) + 1) →
      gw_X12_goOn (d + 1) Q 259 [some (.ref 160), none, none] [] I91 L P
    ) ∧ (¬ 4 ≤ ((I 160 7) - (I 160 6)) →
      ∀ I95 : zI, I95 = zuI I 160 9 ((((10 : Int32) * (I 160 9)) + (sSg I (I 160 7))) - 48) →
      ∀ I97 : zI, I97 = zuI I95 160 7 ((I95 160 7) + 1) →
      gw_X12_goOn (d + 1) Q 259 [some (.ref 160), none, none] [] I97 L P
    ))
  ))
set_option maxRecDepth 20000 in
theorem g_X12_goOn_259 {d : Nat} {Q : zQt}  {I : zI} {L : zL} {P : zP} (hP : zPk P) (hv : v_X12_goOn_259 d Q  I L P) : gw_X12_goOn (d + 1) Q 259 [some (.ref 160), none, none] [] I L P := by
  unfold v_X12_goOn_259 at hv
  refine z_aload_n dX12_goOn_259 rfl ?_
  refine z_aload_n dX12_goOn_260 rfl ?_
  refine z_getI dX12_goOn_261 zf_X12_195 zn_160 zo_160 (fun _ _ _ _ _ => rfl) ?_
  obtain ⟨h72, hv⟩ := hv
  refine z_callV (As := [.int (I 160 7)]) (st := []) dX12_goOn_264 zl_X12_201 zv_X12_sign (by decide) rfl zn_160 zo_160 rfl rfl (Nat.le_of_ble_eq_true rfl) ⟨Nat.le_refl _, Nat.le_refl _⟩ ⟨Nat.le_refl _, Nat.le_refl _⟩ (sp_X12_sign hP h72 (K := fun r I' L' P' => sSg I (I 160 7) = r ∧ I = I' ∧ L = L' ∧ P = P') ⟨rfl, rfl, rfl, rfl⟩) (fun v1 I2 L2 P2 nx1 q74 => ?_)
  obtain ⟨rfl, r73, rfl, rfl, rfl, rfl, rfl⟩ := q74
  refine z_callS (As := [.int (sSg I (I 160 7))]) (st := []) dX12_goOn_267 zl_X12_220 zs_X12_isDigit rfl rfl (Nat.le_of_ble_eq_true rfl) ⟨Nat.le_refl _, Nat.le_refl _⟩ ⟨Nat.le_refl _, Nat.le_refl _⟩ (sp_X12_isDigit hP (K := fun r I' L' P' => bP (isDg (sSg I (I 160 7))) = r ∧ I = I' ∧ L = L' ∧ P = P') ⟨rfl, rfl, rfl, rfl⟩) (fun v1 I2 L2 P2 nx1 q76 => ?_)
  obtain ⟨rfl, r75, rfl, rfl, rfl, rfl, rfl⟩ := q76
  refine z_if_eq (tgt := 322) dX12_goOn_270 (by decide) (fun q77 => ?_) (fun q77 => ?_)
  · have hv := hv.1 q77
    refine z_aload_n dX12_goOn_322 rfl ?_
    refine z_aload_n dX12_goOn_323 rfl ?_
    refine z_getI dX12_goOn_324 zf_X12_195 zn_160 zo_160 (fun _ _ _ _ _ => rfl) ?_
    refine z_aload_n dX12_goOn_327 rfl ?_
    refine z_getI dX12_goOn_328 zf_X12_198 zn_160 zo_160 (fun _ _ _ _ _ => rfl) ?_
    refine z_isub dX12_goOn_331 ?_
    refine z_iconst (v := 4) dX12_goOn_332 (by decide) ?_
    refine z_icmp_gt (tgt := 350) dX12_goOn_333 (by decide) (fun q78 => ?_) (fun q78 => ?_)
    · have hv := hv.1 q78
      refine z_iconst (v := 1) dX12_goOn_350 (by decide) ?_
      refine z_goto (tgt := 355) dX12_goOn_351 (by decide) ?_
      refine z_putI dX12_goOn_355 zf_X12_205 zn_160 zo_160 (Or.inl rfl) (fun _ _ _ _ _ => rfl) rfl rfl (z_nmI (fun I79 e80 => ?_))
      have hv := hv I79 e80
      refine z_goto (tgt := 377) dX12_goOn_358 (by decide) ?_
      exact z_return dX12_goOn_377 rfl (Nat.le_refl _) (Nat.le_refl _) hv
    · have hv := hv.2 q78
      refine z_aload_n dX12_goOn_336 rfl ?_
      refine z_aload_n dX12_goOn_337 rfl ?_
      refine z_getI dX12_goOn_338 zf_X12_195 zn_160 zo_160 (fun _ _ _ _ _ => rfl) ?_
      refine z_callV (As := [.int (I 160 7)]) (st := [.ref 160]) dX12_goOn_341 zl_X12_201 zv_X12_sign (by decide) rfl zn_160 zo_160 rfl rfl (Nat.le_of_ble_eq_true rfl) ⟨Nat.le_refl _, Nat.le_refl _⟩ ⟨Nat.le_refl _, Nat.le_refl _⟩ (sp_X12_sign hP h72 (K := fun r I' L' P' => sSg I (I 160 7) = r ∧ I = I' ∧ L = L' ∧ P = P') ⟨rfl, rfl, rfl, rfl⟩) (fun v1 I2 L2 P2 nx1 q82 => ?_)
      obtain ⟨rfl, r81, rfl, rfl, rfl, rfl, rfl⟩ := q82
      refine z_callS (As := [.int (sSg I (I 160 7))]) (st := [.ref 160]) dX12_goOn_344 zl_X12_208 zs_X12_isLetter rfl rfl (Nat.le_of_ble_eq_true rfl) ⟨Nat.le_refl _, Nat.le_refl _⟩ ⟨Nat.le_refl _, Nat.le_refl _⟩ (sp_X12_isLetter hP (K := fun r I' L' P' => bP (isLt (sSg I (I 160 7))) = r ∧ I = I' ∧ L = L' ∧ P = P') ⟨rfl, rfl, rfl, rfl⟩) (fun v1 I2 L2 P2 nx1 q84 => ?_)
      obtain ⟨rfl, r83, rfl, rfl, rfl, rfl, rfl⟩ := q84
      refine z_if_eq (tgt := 354) dX12_goOn_347 (by decide) (fun q85 => ?_) (fun q85 => ?_)
      · have hv := hv.1 q85
        refine z_iconst (v := 4) dX12_goOn_354 (by decide) ?_
        refine z_putI dX12_goOn_355 zf_X12_205 zn_160 zo_160 (Or.inl rfl) (fun _ _ _ _ _ => rfl) rfl rfl (z_nmI (fun I86 e87 => ?_))
        have hv := hv I86 e87
        refine z_goto (tgt := 377) dX12_goOn_358 (by decide) ?_
        exact z_return dX12_goOn_377 rfl (Nat.le_refl _) (Nat.le_refl _) hv
      · have hv := hv.2 q85
        refine z_iconst (v := 1) dX12_goOn_350 (by decide) ?_
        refine z_goto (tgt := 355) dX12_goOn_351 (by decide) ?_
        refine z_putI dX12_goOn_355 zf_X12_205 zn_160 zo_160 (Or.inl rfl) (fun _ _ _ _ _ => rfl) rfl rfl (z_nmI (fun I88 e89 => ?_))
        have hv := hv I88 e89
        refine z_goto (tgt := 377) dX12_goOn_358 (by decide) ?_
        exact z_return dX12_goOn_377 rfl (Nat.le_refl _) (Nat.le_refl _) hv
  · have hv := hv.2 q77
    refine z_aload_n dX12_goOn_273 rfl ?_
    refine z_getI dX12_goOn_274 zf_X12_195 zn_160 zo_160 (fun _ _ _ _ _ => rfl) ?_
    refine z_aload_n dX12_goOn_277 rfl ?_
    refine z_getI dX12_goOn_278 zf_X12_198 zn_160 zo_160 (fun _ _ _ _ _ => rfl) ?_
    refine z_isub dX12_goOn_281 ?_
    refine z_iconst (v := 4) dX12_goOn_282 (by decide) ?_
    refine z_icmp_ge (tgt := 309) dX12_goOn_283 (by decide) (fun q90 => ?_) (fun q90 => ?_)
    · have hv := hv.1 q90
      refine z_aload_n dX12_goOn_309 rfl ?_
      refine z_dup dX12_goOn_310 rfl ?_
      refine z_getI dX12_goOn_311 zf_X12_195 zn_160 zo_160 (fun _ _ _ _ _ => rfl) ?_
      refine z_iconst (v := 1) dX12_goOn_314 (by decide) ?_
      refine z_iadd dX12_goOn_315 ?_
      refine z_putI dX12_goOn_316 zf_X12_195 zn_160 zo_160 (Or.inl rfl) (fun _ _ _ _ _ => rfl) rfl rfl (z_nmI (fun I91 e92 => ?_))
      have hv := hv I91 e92
      refine z_goto (tgt := 259) dX12_goOn_319 (by decide) ?_
      exact hv
    · have hv := hv.2 q90
      refine z_aload_n dX12_goOn_286 rfl ?_
      refine z_bipush (v := 10) dX12_goOn_287 (by decide) ?_
      refine z_aload_n dX12_goOn_289 rfl ?_
      refine z_getI dX12_goOn_290 zf_X12_223 zn_160 zo_160 (fun _ _ _ _ _ => rfl) ?_
      refine z_imul dX12_goOn_293 ?_
      refine z_aload_n dX12_goOn_294 rfl ?_
      refine z_aload_n dX12_goOn_295 rfl ?_
      refine z_getI dX12_goOn_296 zf_X12_195 zn_160 zo_160 (fun _ _ _ _ _ => rfl) ?_
      refine z_callV (As := [.int (I 160 7)]) (st := [.int ((10 : Int32) * (I 160 9)), .ref 160]) dX12_goOn_299 zl_X12_201 zv_X12_sign (by decide) rfl zn_160 zo_160 rfl rfl (Nat.le_of_ble_eq_true rfl) ⟨Nat.le_refl _, Nat.le_refl _⟩ ⟨Nat.le_refl _, Nat.le_refl _⟩ (sp_X12_sign hP h72 (K := fun r I' L' P' => sSg I (I 160 7) = r ∧ I = I' ∧ L = L' ∧ P = P') ⟨rfl, rfl, rfl, rfl⟩) (fun v1 I2 L2 P2 nx1 q94 => ?_)
      obtain ⟨rfl, r93, rfl, rfl, rfl, rfl, rfl⟩ := q94
      refine z_iadd dX12_goOn_302 ?_
      refine z_bipush (v := 48) dX12_goOn_303 (by decide) ?_
      refine z_isub dX12_goOn_305 ?_
      refine z_putI dX12_goOn_306 zf_X12_223 zn_160 zo_160 (Or.inl rfl) (fun _ _ _ _ _ => rfl) rfl rfl (z_nmI (fun I95 e96 => ?_))
      have hv := hv I95 e96
      refine z_aload_n dX12_goOn_309 rfl ?_
      refine z_dup dX12_goOn_310 rfl ?_
      refine z_getI dX12_goOn_311 zf_X12_195 zn_160 zo_160 (fun _ _ _ _ _ => rfl) ?_
      refine z_iconst (v := 1) dX12_goOn_314 (by decide) ?_
      refine z_iadd dX12_goOn_315 ?_
      refine z_putI dX12_goOn_316 zf_X12_195 zn_160 zo_160 (Or.inl rfl) (fun _ _ _ _ _ => rfl) rfl rfl (z_nmI (fun I97 e98 => ?_))
      have hv := hv I97 e98
      refine z_goto (tgt := 259) dX12_goOn_319 (by decide) ?_
      exact hv
abbrev v_X12_goOn_156 (d : Nat) (Q : zQt) (x2 : Int32) (I : zI) (L : zL) (P : zP) : Prop :=
  (((I 160 7) ≤ x2 →
    ((((I 160 7) - (I 160 6)) ≤ 8 →
      (((bP ((L 160 10) ∈ wdL)) = 0 →
        ∀ I114 : zI, I114 = zuI I 160 8 2 →
        Q none I114 L P 205
      ) ∧ (¬ (bP ((L 160 10) ∈ wdL)) = 0 →
        ∀ I116 : zI, I116 = zuI I 160 8 3 →
        Q none I116 L P 205
      ))
    ) ∧ (¬ ((I 160 7) - (I 160 6)) ≤ 8 →
      ∀ I118 : zI, I118 = zuI I 160 8 1 →
      Q none I118 L P 205
    ))
  ) ∧ (¬ (I 160 7) ≤ x2 →
    ((((I 160 6) + 8) ≤ x2 →
      ((((I 160 7) - (I 160 6)) ≤ 8 →
        (((bP ((L 160 10) ∈ wdL)) = 0 →
          ∀ I125 : zI, I125 = zuI I 160 8 2 →
          Q none I125 L P 205
        ) ∧ (¬ (bP ((L 160 10) ∈ wdL)) = 0 →
          ∀ I127 : zI, I127 = zuI I 160 8 3 →
          Q none I127 L P 205
        ))
      ) ∧ (¬ ((I 160 7) - (I 160 6)) ≤ 8 →
        ∀ I129 : zI, I129 = zuI I 160 8 1 →
        Q none I129 L P 205
      ))
    ) ∧ (¬ ((I 160 6) + 8) ≤ x2 →
      pSg I x2 ∧
      ∀ L134 : zL, L134 = zuL L 160 10 ((((L 160 10) : Int64) <<< ((8 : Int32).toInt64 &&& 63) : Int64) ||| (((sSg I x2) : Int32).toInt64) : Int64) →
      gw_X12_goOn (d + 1) Q 156 [some (.ref 160), none, some (.int (x2 + 1))] [] I L134 P
    ))
  ))
set_option maxRecDepth 20000 in
theorem g_X12_goOn_156 {d : Nat} {Q : zQt} {x2 : Int32} {I : zI} {L : zL} {P : zP} (hP : zPk P) (hv : v_X12_goOn_156 d Q x2 I L P) : gw_X12_goOn (d + 1) Q 156 [some (.ref 160), none, some (.int x2)] [] I L P := by
  unfold v_X12_goOn_156 at hv
  refine z_iload_n dX12_goOn_156 rfl ?_
  refine z_aload_n dX12_goOn_157 rfl ?_
  refine z_getI dX12_goOn_158 zf_X12_195 zn_160 zo_160 (fun _ _ _ _ _ => rfl) ?_
  refine z_icmp_ge (tgt := 199) dX12_goOn_161 (by decide) (fun q109 => ?_) (fun q109 => ?_)
  · have hv := hv.1 q109
    refine z_aload_n dX12_goOn_199 rfl ?_
    refine z_aload_n dX12_goOn_200 rfl ?_
    refine z_getI dX12_goOn_201 zf_X12_195 zn_160 zo_160 (fun _ _ _ _ _ => rfl) ?_
    refine z_aload_n dX12_goOn_204 rfl ?_
    refine z_getI dX12_goOn_205 zf_X12_198 zn_160 zo_160 (fun _ _ _ _ _ => rfl) ?_
    refine z_isub dX12_goOn_208 ?_
    refine z_bipush (v := 8) dX12_goOn_209 (by decide) ?_
    refine z_icmp_le (tgt := 218) dX12_goOn_211 (by decide) (fun q110 => ?_) (fun q110 => ?_)
    · have hv := hv.1 q110
      refine z_aload_n dX12_goOn_218 rfl ?_
      refine z_getL dX12_goOn_219 zf_X12_212 zn_160 zo_160 (fun _ _ _ _ _ => rfl) ?_
      refine z_callS (As := [.long (L 160 10)]) (st := [.ref 160]) dX12_goOn_222 zl_X12_216 zs_X12_isKept rfl rfl (Nat.le_of_ble_eq_true rfl) ⟨Nat.le_refl _, Nat.le_refl _⟩ ⟨Nat.le_refl _, Nat.le_refl _⟩ (sp_X12_isKept hP (K := fun r I' L' P' => bP ((L 160 10) ∈ wdL) = r ∧ I = I' ∧ L = L' ∧ P = P') ⟨rfl, rfl, rfl, rfl⟩) (fun v1 I2 L2 P2 nx1 q112 => ?_)
      obtain ⟨rfl, r111, rfl, rfl, rfl, rfl, rfl⟩ := q112
      refine z_if_eq (tgt := 232) dX12_goOn_225 (by decide) (fun q113 => ?_) (fun q113 => ?_)
      · have hv := hv.1 q113
        refine z_iconst (v := 2) dX12_goOn_232 (by decide) ?_
        refine z_putI dX12_goOn_233 zf_X12_205 zn_160 zo_160 (Or.inl rfl) (fun _ _ _ _ _ => rfl) rfl rfl (z_nmI (fun I114 e115 => ?_))
        have hv := hv I114 e115
        refine z_goto (tgt := 377) dX12_goOn_236 (by decide) ?_
        exact z_return dX12_goOn_377 rfl (Nat.le_refl _) (Nat.le_refl _) hv
      · have hv := hv.2 q113
        refine z_iconst (v := 3) dX12_goOn_228 (by decide) ?_
        refine z_goto (tgt := 233) dX12_goOn_229 (by decide) ?_
        refine z_putI dX12_goOn_233 zf_X12_205 zn_160 zo_160 (Or.inl rfl) (fun _ _ _ _ _ => rfl) rfl rfl (z_nmI (fun I116 e117 => ?_))
        have hv := hv I116 e117
        refine z_goto (tgt := 377) dX12_goOn_236 (by decide) ?_
        exact z_return dX12_goOn_377 rfl (Nat.le_refl _) (Nat.le_refl _) hv
    · have hv := hv.2 q110
      refine z_iconst (v := 1) dX12_goOn_214 (by decide) ?_
      refine z_goto (tgt := 233) dX12_goOn_215 (by decide) ?_
      refine z_putI dX12_goOn_233 zf_X12_205 zn_160 zo_160 (Or.inl rfl) (fun _ _ _ _ _ => rfl) rfl rfl (z_nmI (fun I118 e119 => ?_))
      have hv := hv I118 e119
      refine z_goto (tgt := 377) dX12_goOn_236 (by decide) ?_
      exact z_return dX12_goOn_377 rfl (Nat.le_refl _) (Nat.le_refl _) hv
  · have hv := hv.2 q109
    refine z_iload_n dX12_goOn_164 rfl ?_
    refine z_aload_n dX12_goOn_165 rfl ?_
    refine z_getI dX12_goOn_166 zf_X12_198 zn_160 zo_160 (fun _ _ _ _ _ => rfl) ?_
    refine z_bipush (v := 8) dX12_goOn_169 (by decide) ?_
    refine z_iadd dX12_goOn_171 ?_
    refine z_icmp_ge (tgt := 199) dX12_goOn_172 (by decide) (fun q120 => ?_) (fun q120 => ?_)
    · have hv := hv.1 q120
      refine z_aload_n dX12_goOn_199 rfl ?_
      refine z_aload_n dX12_goOn_200 rfl ?_
      refine z_getI dX12_goOn_201 zf_X12_195 zn_160 zo_160 (fun _ _ _ _ _ => rfl) ?_
      refine z_aload_n dX12_goOn_204 rfl ?_
      refine z_getI dX12_goOn_205 zf_X12_198 zn_160 zo_160 (fun _ _ _ _ _ => rfl) ?_
      refine z_isub dX12_goOn_208 ?_
      refine z_bipush (v := 8) dX12_goOn_209 (by decide) ?_
      refine z_icmp_le (tgt := 218) dX12_goOn_211 (by decide) (fun q121 => ?_) (fun q121 => ?_)
      · have hv := hv.1 q121
        refine z_aload_n dX12_goOn_218 rfl ?_
        refine z_getL dX12_goOn_219 zf_X12_212 zn_160 zo_160 (fun _ _ _ _ _ => rfl) ?_
        refine z_callS (As := [.long (L 160 10)]) (st := [.ref 160]) dX12_goOn_222 zl_X12_216 zs_X12_isKept rfl rfl (Nat.le_of_ble_eq_true rfl) ⟨Nat.le_refl _, Nat.le_refl _⟩ ⟨Nat.le_refl _, Nat.le_refl _⟩ (sp_X12_isKept hP (K := fun r I' L' P' => bP ((L 160 10) ∈ wdL) = r ∧ I = I' ∧ L = L' ∧ P = P') ⟨rfl, rfl, rfl, rfl⟩) (fun v1 I2 L2 P2 nx1 q123 => ?_)
        obtain ⟨rfl, r122, rfl, rfl, rfl, rfl, rfl⟩ := q123
        refine z_if_eq (tgt := 232) dX12_goOn_225 (by decide) (fun q124 => ?_) (fun q124 => ?_)
        · have hv := hv.1 q124
          refine z_iconst (v := 2) dX12_goOn_232 (by decide) ?_
          refine z_putI dX12_goOn_233 zf_X12_205 zn_160 zo_160 (Or.inl rfl) (fun _ _ _ _ _ => rfl) rfl rfl (z_nmI (fun I125 e126 => ?_))
          have hv := hv I125 e126
          refine z_goto (tgt := 377) dX12_goOn_236 (by decide) ?_
          exact z_return dX12_goOn_377 rfl (Nat.le_refl _) (Nat.le_refl _) hv
        · have hv := hv.2 q124
          refine z_iconst (v := 3) dX12_goOn_228 (by decide) ?_
          refine z_goto (tgt := 233) dX12_goOn_229 (by decide) ?_
          refine z_putI dX12_goOn_233 zf_X12_205 zn_160 zo_160 (Or.inl rfl) (fun _ _ _ _ _ => rfl) rfl rfl (z_nmI (fun I127 e128 => ?_))
          have hv := hv I127 e128
          refine z_goto (tgt := 377) dX12_goOn_236 (by decide) ?_
          exact z_return dX12_goOn_377 rfl (Nat.le_refl _) (Nat.le_refl _) hv
      · have hv := hv.2 q121
        refine z_iconst (v := 1) dX12_goOn_214 (by decide) ?_
        refine z_goto (tgt := 233) dX12_goOn_215 (by decide) ?_
        refine z_putI dX12_goOn_233 zf_X12_205 zn_160 zo_160 (Or.inl rfl) (fun _ _ _ _ _ => rfl) rfl rfl (z_nmI (fun I129 e130 => ?_))
        have hv := hv I129 e130
        refine z_goto (tgt := 377) dX12_goOn_236 (by decide) ?_
        exact z_return dX12_goOn_377 rfl (Nat.le_refl _) (Nat.le_refl _) hv
    · have hv := hv.2 q120
      refine z_aload_n dX12_goOn_175 rfl ?_
      refine z_aload_n dX12_goOn_176 rfl ?_
      refine z_getL dX12_goOn_177 zf_X12_212 zn_160 zo_160 (fun _ _ _ _ _ => rfl) ?_
      refine z_bipush (v := 8) dX12_goOn_180 (by decide) ?_
      refine z_lshl dX12_goOn_182 ?_
      refine z_aload_n dX12_goOn_183 rfl ?_
      refine z_iload_n dX12_goOn_184 rfl ?_
      obtain ⟨h131, hv⟩ := hv
      refine z_callV (As := [.int x2]) (st := [.long (((L 160 10) : Int64) <<< ((8 : Int32).toInt64 &&& 63) : Int64), .ref 160]) dX12_goOn_185 zl_X12_201 zv_X12_sign (by decide) rfl zn_160 zo_160 rfl rfl (Nat.le_of_ble_eq_true rfl) ⟨Nat.le_refl _, Nat.le_refl _⟩ ⟨Nat.le_refl _, Nat.le_refl _⟩ (sp_X12_sign hP h131 (K := fun r I' L' P' => sSg I x2 = r ∧ I = I' ∧ L = L' ∧ P = P') ⟨rfl, rfl, rfl, rfl⟩) (fun v1 I2 L2 P2 nx1 q133 => ?_)
      obtain ⟨rfl, r132, rfl, rfl, rfl, rfl, rfl⟩ := q133
      refine z_i2l dX12_goOn_188 ?_
      refine z_lor dX12_goOn_189 ?_
      refine z_putL dX12_goOn_190 zf_X12_212 zn_160 zo_160 (Or.inl rfl) (fun _ _ _ _ _ => rfl) rfl rfl (z_nmL (fun L134 e135 => ?_))
      have hv := hv L134 e135
      refine z_iinc (v2 := x2 + 1) (lv2 := [some (.ref 160), none, some (.int (x2 + 1))]) dX12_goOn_193 rfl (by rfl) (by decide) rfl rfl ?_
      refine z_goto (tgt := 156) dX12_goOn_196 (by decide) ?_
      exact hv
abbrev v_X12_goOn_119 (d : Nat) (Q : zQt)  (I : zI) (L : zL) (P : zP) : Prop :=
  pSg I (I 160 7) ∧
  (((bP (isLt (sSg I (I 160 7)))) = 0 →
    ∀ L105 : zL, L105 = zuL L 160 10 0 →
    gw_X12_goOn (d + 1) Q 156 [some (.ref 160), none, some (.int (I 160 6))] [] I L105 P
  ) ∧ (¬ (bP (isLt (sSg I (I 160 7)))) = 0 →
    ∀ I107 : zI, I107 = zuI I 160 7 ((I 160 7) + 1) →
    gw_X12_goOn (d + 1) Q 119 [some (.ref 160), none, none] [] I107 L P
  ))
set_option maxRecDepth 20000 in
theorem g_X12_goOn_119 {d : Nat} {Q : zQt}  {I : zI} {L : zL} {P : zP} (hP : zPk P) (hv : v_X12_goOn_119 d Q  I L P) : gw_X12_goOn (d + 1) Q 119 [some (.ref 160), none, none] [] I L P := by
  unfold v_X12_goOn_119 at hv
  refine z_aload_n dX12_goOn_119 rfl ?_
  refine z_aload_n dX12_goOn_120 rfl ?_
  refine z_getI dX12_goOn_121 zf_X12_195 zn_160 zo_160 (fun _ _ _ _ _ => rfl) ?_
  obtain ⟨h99, hv⟩ := hv
  refine z_callV (As := [.int (I 160 7)]) (st := []) dX12_goOn_124 zl_X12_201 zv_X12_sign (by decide) rfl zn_160 zo_160 rfl rfl (Nat.le_of_ble_eq_true rfl) ⟨Nat.le_refl _, Nat.le_refl _⟩ ⟨Nat.le_refl _, Nat.le_refl _⟩ (sp_X12_sign hP h99 (K := fun r I' L' P' => sSg I (I 160 7) = r ∧ I = I' ∧ L = L' ∧ P = P') ⟨rfl, rfl, rfl, rfl⟩) (fun v1 I2 L2 P2 nx1 q101 => ?_)
  obtain ⟨rfl, r100, rfl, rfl, rfl, rfl, rfl⟩ := q101
  refine z_callS (As := [.int (sSg I (I 160 7))]) (st := []) dX12_goOn_127 zl_X12_208 zs_X12_isLetter rfl rfl (Nat.le_of_ble_eq_true rfl) ⟨Nat.le_refl _, Nat.le_refl _⟩ ⟨Nat.le_refl _, Nat.le_refl _⟩ (sp_X12_isLetter hP (K := fun r I' L' P' => bP (isLt (sSg I (I 160 7))) = r ∧ I = I' ∧ L = L' ∧ P = P') ⟨rfl, rfl, rfl, rfl⟩) (fun v1 I2 L2 P2 nx1 q103 => ?_)
  obtain ⟨rfl, r102, rfl, rfl, rfl, rfl, rfl⟩ := q103
  refine z_if_eq (tgt := 146) dX12_goOn_130 (by decide) (fun q104 => ?_) (fun q104 => ?_)
  · have hv := hv.1 q104
    refine z_aload_n dX12_goOn_146 rfl ?_
    refine z_lconst (v := 0) dX12_goOn_147 (by decide) ?_
    refine z_putL dX12_goOn_148 zf_X12_212 zn_160 zo_160 (Or.inl rfl) (fun _ _ _ _ _ => rfl) rfl rfl (z_nmL (fun L105 e106 => ?_))
    have hv := hv L105 e106
    refine z_aload_n dX12_goOn_151 rfl ?_
    refine z_getI dX12_goOn_152 zf_X12_198 zn_160 zo_160 (fun _ _ _ _ _ => rfl) ?_
    refine z_istore_n (lv2 := [some (.ref 160), none, some (.int (I 160 6))]) dX12_goOn_155 (by decide) rfl rfl ?_
    exact hv
  · have hv := hv.2 q104
    refine z_aload_n dX12_goOn_133 rfl ?_
    refine z_dup dX12_goOn_134 rfl ?_
    refine z_getI dX12_goOn_135 zf_X12_195 zn_160 zo_160 (fun _ _ _ _ _ => rfl) ?_
    refine z_iconst (v := 1) dX12_goOn_138 (by decide) ?_
    refine z_iadd dX12_goOn_139 ?_
    refine z_putI dX12_goOn_140 zf_X12_195 zn_160 zo_160 (Or.inl rfl) (fun _ _ _ _ _ => rfl) rfl rfl (z_nmI (fun I107 e108 => ?_))
    have hv := hv I107 e108
    refine z_goto (tgt := 119) dX12_goOn_143 (by decide) ?_
    exact hv
abbrev v_X12_goOn_8 (d : Nat) (Q : zQt)  (I : zI) (L : zL) (P : zP) : Prop :=
  (((I 160 3) ≤ (I 160 6) →
    pSg I (I 160 6) ∧
    ∀ I7 : zI, I7 = zuI I 160 7 ((I 160 6) + 1) →
    (((I7 160 6) < (I7 160 3) →
      (((bP (isLt (sSg I (I 160 6)))) = 0 →
        (((bP (isDg (sSg I (I 160 6)))) = 0 →
          (((bP ((sSg I (I 160 6)) ∈ sgL)) = 0 →
            ∀ I19 : zI, I19 = zuI I7 160 8 1 →
            Q none I19 L P 205
          ) ∧ (¬ (bP ((sSg I (I 160 6)) ∈ sgL)) = 0 →
            ∀ I21 : zI, I21 = zuI I7 160 8 5 →
            Q none I21 L P 205
          ))
        ) ∧ (¬ (bP (isDg (sSg I (I 160 6)))) = 0 →
          ∀ I23 : zI, I23 = zuI I7 160 9 0 →
          ∀ I25 : zI, I25 = zuI I23 160 7 (I23 160 6) →
          gw_X12_goOn (d + 1) Q 259 [some (.ref 160), none, none] [] I25 L P
        ))
      ) ∧ (¬ (bP (isLt (sSg I (I 160 6)))) = 0 →
        gw_X12_goOn (d + 1) Q 119 [some (.ref 160), none, none] [] I7 L P
      ))
    ) ∧ (¬ (I7 160 6) < (I7 160 3) →
      ∀ I27 : zI, I27 = zuI I7 160 8 0 →
      ∀ I29 : zI, I29 = zuI I27 160 6 (I27 160 3) →
      ∀ I31 : zI, I31 = zuI I29 160 7 (I29 160 3) →
      Q none I31 L P 205
    ))
  ) ∧ (¬ (I 160 3) ≤ (I 160 6) →
    pSg I (I 160 6) ∧
    (((sSg I (I 160 6)) = 32 →
      ∀ I37 : zI, I37 = zuI I 160 6 ((I 160 6) + 1) →
      gw_X12_goOn (d + 1) Q 8 [some (.ref 160), none, none] [] I37 L P
    ) ∧ (¬ (sSg I (I 160 6)) = 32 →
      ((¬ (sSg I (I 160 6)) = 10 →
        ∀ I44 : zI, I44 = zuI I 160 7 ((I 160 6) + 1) →
        (((I44 160 6) < (I44 160 3) →
          (((bP (isLt (sSg I (I 160 6)))) = 0 →
            (((bP (isDg (sSg I (I 160 6)))) = 0 →
              (((bP ((sSg I (I 160 6)) ∈ sgL)) = 0 →
                ∀ I56 : zI, I56 = zuI I44 160 8 1 →
                Q none I56 L P 205
              ) ∧ (¬ (bP ((sSg I (I 160 6)) ∈ sgL)) = 0 →
                ∀ I58 : zI, I58 = zuI I44 160 8 5 →
                Q none I58 L P 205
              ))
            ) ∧ (¬ (bP (isDg (sSg I (I 160 6)))) = 0 →
              ∀ I60 : zI, I60 = zuI I44 160 9 0 →
              ∀ I62 : zI, I62 = zuI I60 160 7 (I60 160 6) →
              gw_X12_goOn (d + 1) Q 259 [some (.ref 160), none, none] [] I62 L P
            ))
          ) ∧ (¬ (bP (isLt (sSg I (I 160 6)))) = 0 →
            gw_X12_goOn (d + 1) Q 119 [some (.ref 160), none, none] [] I44 L P
          ))
        ) ∧ (¬ (I44 160 6) < (I44 160 3) →
          ∀ I64 : zI, I64 = zuI I44 160 8 0 →
          ∀ I66 : zI, I66 = zuI I64 160 6 (I64 160 3) →
          ∀ I68 : zI, I68 = zuI I66 160 7 (I66 160 3) →
          Q none I68 L P 205
        ))
      ) ∧ ((sSg I (I 160 6)) = 10 →
        ∀ I70 : zI, I70 = zuI I 160 6 ((I 160 6) + 1) →
        gw_X12_goOn (d + 1) Q 8 [some (.ref 160), none, none] [] I70 L P
      ))
    ))
  ))
set_option maxRecDepth 20000 in
theorem g_X12_goOn_8 {d : Nat} {Q : zQt}  {I : zI} {L : zL} {P : zP} (hP : zPk P) (hv : v_X12_goOn_8 d Q  I L P) : gw_X12_goOn (d + 1) Q 8 [some (.ref 160), none, none] [] I L P := by
  unfold v_X12_goOn_8 at hv
  refine z_aload_n dX12_goOn_8 rfl ?_
  refine z_getI dX12_goOn_9 zf_X12_198 zn_160 zo_160 (fun _ _ _ _ _ => rfl) ?_
  refine z_aload_n dX12_goOn_12 rfl ?_
  refine z_getI dX12_goOn_13 zf_X12_155 zn_160 zo_160 (fun _ _ _ _ _ => rfl) ?_
  refine z_icmp_ge (tgt := 58) dX12_goOn_16 (by decide) (fun q3 => ?_) (fun q3 => ?_)
  · have hv := hv.1 q3
    refine z_aload_n dX12_goOn_58 rfl ?_
    refine z_aload_n dX12_goOn_59 rfl ?_
    refine z_getI dX12_goOn_60 zf_X12_198 zn_160 zo_160 (fun _ _ _ _ _ => rfl) ?_
    obtain ⟨h4, hv⟩ := hv
    refine z_callV (As := [.int (I 160 6)]) (st := []) dX12_goOn_63 zl_X12_201 zv_X12_sign (by decide) rfl zn_160 zo_160 rfl rfl (Nat.le_of_ble_eq_true rfl) ⟨Nat.le_refl _, Nat.le_refl _⟩ ⟨Nat.le_refl _, Nat.le_refl _⟩ (sp_X12_sign hP h4 (K := fun r I' L' P' => sSg I (I 160 6) = r ∧ I = I' ∧ L = L' ∧ P = P') ⟨rfl, rfl, rfl, rfl⟩) (fun v1 I2 L2 P2 nx1 q6 => ?_)
    obtain ⟨rfl, r5, rfl, rfl, rfl, rfl, rfl⟩ := q6
    refine z_istore_n (lv2 := [some (.ref 160), some (.int (sSg I (I 160 6))), none]) dX12_goOn_66 (by decide) rfl rfl ?_
    refine z_aload_n dX12_goOn_67 rfl ?_
    refine z_aload_n dX12_goOn_68 rfl ?_
    refine z_getI dX12_goOn_69 zf_X12_198 zn_160 zo_160 (fun _ _ _ _ _ => rfl) ?_
    refine z_iconst (v := 1) dX12_goOn_72 (by decide) ?_
    refine z_iadd dX12_goOn_73 ?_
    refine z_putI dX12_goOn_74 zf_X12_195 zn_160 zo_160 (Or.inl rfl) (fun _ _ _ _ _ => rfl) rfl rfl (z_nmI (fun I7 e8 => ?_))
    have hv := hv I7 e8
    refine z_aload_n dX12_goOn_77 rfl ?_
    refine z_getI dX12_goOn_78 zf_X12_198 zn_160 zo_160 (fun _ _ _ _ _ => rfl) ?_
    refine z_aload_n dX12_goOn_81 rfl ?_
    refine z_getI dX12_goOn_82 zf_X12_155 zn_160 zo_160 (fun _ _ _ _ _ => rfl) ?_
    refine z_icmp_lt (tgt := 112) dX12_goOn_85 (by decide) (fun q9 => ?_) (fun q9 => ?_)
    · have hv := hv.1 q9
      refine z_iload_n dX12_goOn_112 rfl ?_
      refine z_callS (As := [.int (sSg I (I 160 6))]) (st := []) dX12_goOn_113 zl_X12_208 zs_X12_isLetter rfl rfl (Nat.le_of_ble_eq_true rfl) ⟨Nat.le_refl _, Nat.le_refl _⟩ ⟨Nat.le_refl _, Nat.le_refl _⟩ (sp_X12_isLetter hP (K := fun r I' L' P' => bP (isLt (sSg I (I 160 6))) = r ∧ I7 = I' ∧ L = L' ∧ P = P') ⟨rfl, rfl, rfl, rfl⟩) (fun v1 I2 L2 P2 nx1 q11 => ?_)
      obtain ⟨rfl, r10, rfl, rfl, rfl, rfl, rfl⟩ := q11
      refine z_if_eq (tgt := 239) dX12_goOn_116 (by decide) (fun q12 => ?_) (fun q12 => ?_)
      · have hv := hv.1 q12
        refine z_iload_n dX12_goOn_239 rfl ?_
        refine z_callS (As := [.int (sSg I (I 160 6))]) (st := []) dX12_goOn_240 zl_X12_220 zs_X12_isDigit rfl rfl (Nat.le_of_ble_eq_true rfl) ⟨Nat.le_refl _, Nat.le_refl _⟩ ⟨Nat.le_refl _, Nat.le_refl _⟩ (sp_X12_isDigit hP (K := fun r I' L' P' => bP (isDg (sSg I (I 160 6))) = r ∧ I7 = I' ∧ L = L' ∧ P = P') ⟨rfl, rfl, rfl, rfl⟩) (fun v1 I2 L2 P2 nx1 q14 => ?_)
        obtain ⟨rfl, r13, rfl, rfl, rfl, rfl, rfl⟩ := q14
        refine z_if_eq (tgt := 361) dX12_goOn_243 (by decide) (fun q15 => ?_) (fun q15 => ?_)
        · have hv := hv.1 q15
          refine z_aload_n dX12_goOn_361 rfl ?_
          refine z_iload_n dX12_goOn_362 rfl ?_
          refine z_callS (As := [.int (sSg I (I 160 6))]) (st := [.ref 160]) dX12_goOn_363 zl_X12_226 zs_X12_isSign rfl rfl (Nat.le_of_ble_eq_true rfl) ⟨Nat.le_refl _, Nat.le_refl _⟩ ⟨Nat.le_refl _, Nat.le_refl _⟩ (sp_X12_isSign hP (K := fun r I' L' P' => bP ((sSg I (I 160 6)) ∈ sgL) = r ∧ I7 = I' ∧ L = L' ∧ P = P') ⟨rfl, rfl, rfl, rfl⟩) (fun v1 I2 L2 P2 nx1 q17 => ?_)
          obtain ⟨rfl, r16, rfl, rfl, rfl, rfl, rfl⟩ := q17
          refine z_if_eq (tgt := 373) dX12_goOn_366 (by decide) (fun q18 => ?_) (fun q18 => ?_)
          · have hv := hv.1 q18
            refine z_iconst (v := 1) dX12_goOn_373 (by decide) ?_
            refine z_putI dX12_goOn_374 zf_X12_205 zn_160 zo_160 (Or.inl rfl) (fun _ _ _ _ _ => rfl) rfl rfl (z_nmI (fun I19 e20 => ?_))
            have hv := hv I19 e20
            exact z_return dX12_goOn_377 rfl (Nat.le_refl _) (Nat.le_refl _) hv
          · have hv := hv.2 q18
            refine z_iconst (v := 5) dX12_goOn_369 (by decide) ?_
            refine z_goto (tgt := 374) dX12_goOn_370 (by decide) ?_
            refine z_putI dX12_goOn_374 zf_X12_205 zn_160 zo_160 (Or.inl rfl) (fun _ _ _ _ _ => rfl) rfl rfl (z_nmI (fun I21 e22 => ?_))
            have hv := hv I21 e22
            exact z_return dX12_goOn_377 rfl (Nat.le_refl _) (Nat.le_refl _) hv
        · have hv := hv.2 q15
          refine z_aload_n dX12_goOn_246 rfl ?_
          refine z_iconst (v := 0) dX12_goOn_247 (by decide) ?_
          refine z_putI dX12_goOn_248 zf_X12_223 zn_160 zo_160 (Or.inl rfl) (fun _ _ _ _ _ => rfl) rfl rfl (z_nmI (fun I23 e24 => ?_))
          have hv := hv I23 e24
          refine z_aload_n dX12_goOn_251 rfl ?_
          refine z_aload_n dX12_goOn_252 rfl ?_
          refine z_getI dX12_goOn_253 zf_X12_198 zn_160 zo_160 (fun _ _ _ _ _ => rfl) ?_
          refine z_putI dX12_goOn_256 zf_X12_195 zn_160 zo_160 (Or.inl rfl) (fun _ _ _ _ _ => rfl) rfl rfl (z_nmI (fun I25 e26 => ?_))
          have hv := hv I25 e26
          exact z_sub (by exact ⟨rfl, trivial⟩) hv
      · have hv := hv.2 q12
        exact z_sub (by exact ⟨rfl, trivial⟩) hv
    · have hv := hv.2 q9
      refine z_aload_n dX12_goOn_88 rfl ?_
      refine z_iconst (v := 0) dX12_goOn_89 (by decide) ?_
      refine z_putI dX12_goOn_90 zf_X12_205 zn_160 zo_160 (Or.inl rfl) (fun _ _ _ _ _ => rfl) rfl rfl (z_nmI (fun I27 e28 => ?_))
      have hv := hv I27 e28
      refine z_aload_n dX12_goOn_93 rfl ?_
      refine z_aload_n dX12_goOn_94 rfl ?_
      refine z_getI dX12_goOn_95 zf_X12_155 zn_160 zo_160 (fun _ _ _ _ _ => rfl) ?_
      refine z_putI dX12_goOn_98 zf_X12_198 zn_160 zo_160 (Or.inl rfl) (fun _ _ _ _ _ => rfl) rfl rfl (z_nmI (fun I29 e30 => ?_))
      have hv := hv I29 e30
      refine z_aload_n dX12_goOn_101 rfl ?_
      refine z_aload_n dX12_goOn_102 rfl ?_
      refine z_getI dX12_goOn_103 zf_X12_155 zn_160 zo_160 (fun _ _ _ _ _ => rfl) ?_
      refine z_putI dX12_goOn_106 zf_X12_195 zn_160 zo_160 (Or.inl rfl) (fun _ _ _ _ _ => rfl) rfl rfl (z_nmI (fun I31 e32 => ?_))
      have hv := hv I31 e32
      refine z_goto (tgt := 377) dX12_goOn_109 (by decide) ?_
      exact z_return dX12_goOn_377 rfl (Nat.le_refl _) (Nat.le_refl _) hv
  · have hv := hv.2 q3
    refine z_aload_n dX12_goOn_19 rfl ?_
    refine z_aload_n dX12_goOn_20 rfl ?_
    refine z_getI dX12_goOn_21 zf_X12_198 zn_160 zo_160 (fun _ _ _ _ _ => rfl) ?_
    obtain ⟨h33, hv⟩ := hv
    refine z_callV (As := [.int (I 160 6)]) (st := []) dX12_goOn_24 zl_X12_201 zv_X12_sign (by decide) rfl zn_160 zo_160 rfl rfl (Nat.le_of_ble_eq_true rfl) ⟨Nat.le_refl _, Nat.le_refl _⟩ ⟨Nat.le_refl _, Nat.le_refl _⟩ (sp_X12_sign hP h33 (K := fun r I' L' P' => sSg I (I 160 6) = r ∧ I = I' ∧ L = L' ∧ P = P') ⟨rfl, rfl, rfl, rfl⟩) (fun v1 I2 L2 P2 nx1 q35 => ?_)
    obtain ⟨rfl, r34, rfl, rfl, rfl, rfl, rfl⟩ := q35
    refine z_bipush (v := 32) dX12_goOn_27 (by decide) ?_
    refine z_icmp_eq (tgt := 45) dX12_goOn_29 (by decide) (fun q36 => ?_) (fun q36 => ?_)
    · have hv := hv.1 q36
      refine z_aload_n dX12_goOn_45 rfl ?_
      refine z_dup dX12_goOn_46 rfl ?_
      refine z_getI dX12_goOn_47 zf_X12_198 zn_160 zo_160 (fun _ _ _ _ _ => rfl) ?_
      refine z_iconst (v := 1) dX12_goOn_50 (by decide) ?_
      refine z_iadd dX12_goOn_51 ?_
      refine z_putI dX12_goOn_52 zf_X12_198 zn_160 zo_160 (Or.inl rfl) (fun _ _ _ _ _ => rfl) rfl rfl (z_nmI (fun I37 e38 => ?_))
      have hv := hv I37 e38
      refine z_goto (tgt := 8) dX12_goOn_55 (by decide) ?_
      exact hv
    · have hv := hv.2 q36
      refine z_aload_n dX12_goOn_32 rfl ?_
      refine z_aload_n dX12_goOn_33 rfl ?_
      refine z_getI dX12_goOn_34 zf_X12_198 zn_160 zo_160 (fun _ _ _ _ _ => rfl) ?_
      refine z_callV (As := [.int (I 160 6)]) (st := []) dX12_goOn_37 zl_X12_201 zv_X12_sign (by decide) rfl zn_160 zo_160 rfl rfl (Nat.le_of_ble_eq_true rfl) ⟨Nat.le_refl _, Nat.le_refl _⟩ ⟨Nat.le_refl _, Nat.le_refl _⟩ (sp_X12_sign hP h33 (K := fun r I' L' P' => sSg I (I 160 6) = r ∧ I = I' ∧ L = L' ∧ P = P') ⟨rfl, rfl, rfl, rfl⟩) (fun v1 I2 L2 P2 nx1 q40 => ?_)
      obtain ⟨rfl, r39, rfl, rfl, rfl, rfl, rfl⟩ := q40
      refine z_bipush (v := 10) dX12_goOn_40 (by decide) ?_
      refine z_icmp_ne (tgt := 58) dX12_goOn_42 (by decide) (fun q41 => ?_) (fun q41 => ?_)
      · have hv := hv.1 q41
        refine z_aload_n dX12_goOn_58 rfl ?_
        refine z_aload_n dX12_goOn_59 rfl ?_
        refine z_getI dX12_goOn_60 zf_X12_198 zn_160 zo_160 (fun _ _ _ _ _ => rfl) ?_
        refine z_callV (As := [.int (I 160 6)]) (st := []) dX12_goOn_63 zl_X12_201 zv_X12_sign (by decide) rfl zn_160 zo_160 rfl rfl (Nat.le_of_ble_eq_true rfl) ⟨Nat.le_refl _, Nat.le_refl _⟩ ⟨Nat.le_refl _, Nat.le_refl _⟩ (sp_X12_sign hP h33 (K := fun r I' L' P' => sSg I (I 160 6) = r ∧ I = I' ∧ L = L' ∧ P = P') ⟨rfl, rfl, rfl, rfl⟩) (fun v1 I2 L2 P2 nx1 q43 => ?_)
        obtain ⟨rfl, r42, rfl, rfl, rfl, rfl, rfl⟩ := q43
        refine z_istore_n (lv2 := [some (.ref 160), some (.int (sSg I (I 160 6))), none]) dX12_goOn_66 (by decide) rfl rfl ?_
        refine z_aload_n dX12_goOn_67 rfl ?_
        refine z_aload_n dX12_goOn_68 rfl ?_
        refine z_getI dX12_goOn_69 zf_X12_198 zn_160 zo_160 (fun _ _ _ _ _ => rfl) ?_
        refine z_iconst (v := 1) dX12_goOn_72 (by decide) ?_
        refine z_iadd dX12_goOn_73 ?_
        refine z_putI dX12_goOn_74 zf_X12_195 zn_160 zo_160 (Or.inl rfl) (fun _ _ _ _ _ => rfl) rfl rfl (z_nmI (fun I44 e45 => ?_))
        have hv := hv I44 e45
        refine z_aload_n dX12_goOn_77 rfl ?_
        refine z_getI dX12_goOn_78 zf_X12_198 zn_160 zo_160 (fun _ _ _ _ _ => rfl) ?_
        refine z_aload_n dX12_goOn_81 rfl ?_
        refine z_getI dX12_goOn_82 zf_X12_155 zn_160 zo_160 (fun _ _ _ _ _ => rfl) ?_
        refine z_icmp_lt (tgt := 112) dX12_goOn_85 (by decide) (fun q46 => ?_) (fun q46 => ?_)
        · have hv := hv.1 q46
          refine z_iload_n dX12_goOn_112 rfl ?_
          refine z_callS (As := [.int (sSg I (I 160 6))]) (st := []) dX12_goOn_113 zl_X12_208 zs_X12_isLetter rfl rfl (Nat.le_of_ble_eq_true rfl) ⟨Nat.le_refl _, Nat.le_refl _⟩ ⟨Nat.le_refl _, Nat.le_refl _⟩ (sp_X12_isLetter hP (K := fun r I' L' P' => bP (isLt (sSg I (I 160 6))) = r ∧ I44 = I' ∧ L = L' ∧ P = P') ⟨rfl, rfl, rfl, rfl⟩) (fun v1 I2 L2 P2 nx1 q48 => ?_)
          obtain ⟨rfl, r47, rfl, rfl, rfl, rfl, rfl⟩ := q48
          refine z_if_eq (tgt := 239) dX12_goOn_116 (by decide) (fun q49 => ?_) (fun q49 => ?_)
          · have hv := hv.1 q49
            refine z_iload_n dX12_goOn_239 rfl ?_
            refine z_callS (As := [.int (sSg I (I 160 6))]) (st := []) dX12_goOn_240 zl_X12_220 zs_X12_isDigit rfl rfl (Nat.le_of_ble_eq_true rfl) ⟨Nat.le_refl _, Nat.le_refl _⟩ ⟨Nat.le_refl _, Nat.le_refl _⟩ (sp_X12_isDigit hP (K := fun r I' L' P' => bP (isDg (sSg I (I 160 6))) = r ∧ I44 = I' ∧ L = L' ∧ P = P') ⟨rfl, rfl, rfl, rfl⟩) (fun v1 I2 L2 P2 nx1 q51 => ?_)
            obtain ⟨rfl, r50, rfl, rfl, rfl, rfl, rfl⟩ := q51
            refine z_if_eq (tgt := 361) dX12_goOn_243 (by decide) (fun q52 => ?_) (fun q52 => ?_)
            · have hv := hv.1 q52
              refine z_aload_n dX12_goOn_361 rfl ?_
              refine z_iload_n dX12_goOn_362 rfl ?_
              refine z_callS (As := [.int (sSg I (I 160 6))]) (st := [.ref 160]) dX12_goOn_363 zl_X12_226 zs_X12_isSign rfl rfl (Nat.le_of_ble_eq_true rfl) ⟨Nat.le_refl _, Nat.le_refl _⟩ ⟨Nat.le_refl _, Nat.le_refl _⟩ (sp_X12_isSign hP (K := fun r I' L' P' => bP ((sSg I (I 160 6)) ∈ sgL) = r ∧ I44 = I' ∧ L = L' ∧ P = P') ⟨rfl, rfl, rfl, rfl⟩) (fun v1 I2 L2 P2 nx1 q54 => ?_)
              obtain ⟨rfl, r53, rfl, rfl, rfl, rfl, rfl⟩ := q54
              refine z_if_eq (tgt := 373) dX12_goOn_366 (by decide) (fun q55 => ?_) (fun q55 => ?_)
              · have hv := hv.1 q55
                refine z_iconst (v := 1) dX12_goOn_373 (by decide) ?_
                refine z_putI dX12_goOn_374 zf_X12_205 zn_160 zo_160 (Or.inl rfl) (fun _ _ _ _ _ => rfl) rfl rfl (z_nmI (fun I56 e57 => ?_))
                have hv := hv I56 e57
                exact z_return dX12_goOn_377 rfl (Nat.le_refl _) (Nat.le_refl _) hv
              · have hv := hv.2 q55
                refine z_iconst (v := 5) dX12_goOn_369 (by decide) ?_
                refine z_goto (tgt := 374) dX12_goOn_370 (by decide) ?_
                refine z_putI dX12_goOn_374 zf_X12_205 zn_160 zo_160 (Or.inl rfl) (fun _ _ _ _ _ => rfl) rfl rfl (z_nmI (fun I58 e59 => ?_))
                have hv := hv I58 e59
                exact z_return dX12_goOn_377 rfl (Nat.le_refl _) (Nat.le_refl _) hv
            · have hv := hv.2 q52
              refine z_aload_n dX12_goOn_246 rfl ?_
              refine z_iconst (v := 0) dX12_goOn_247 (by decide) ?_
              refine z_putI dX12_goOn_248 zf_X12_223 zn_160 zo_160 (Or.inl rfl) (fun _ _ _ _ _ => rfl) rfl rfl (z_nmI (fun I60 e61 => ?_))
              have hv := hv I60 e61
              refine z_aload_n dX12_goOn_251 rfl ?_
              refine z_aload_n dX12_goOn_252 rfl ?_
              refine z_getI dX12_goOn_253 zf_X12_198 zn_160 zo_160 (fun _ _ _ _ _ => rfl) ?_
              refine z_putI dX12_goOn_256 zf_X12_195 zn_160 zo_160 (Or.inl rfl) (fun _ _ _ _ _ => rfl) rfl rfl (z_nmI (fun I62 e63 => ?_))
              have hv := hv I62 e63
              exact z_sub (by exact ⟨rfl, trivial⟩) hv
          · have hv := hv.2 q49
            exact z_sub (by exact ⟨rfl, trivial⟩) hv
        · have hv := hv.2 q46
          refine z_aload_n dX12_goOn_88 rfl ?_
          refine z_iconst (v := 0) dX12_goOn_89 (by decide) ?_
          refine z_putI dX12_goOn_90 zf_X12_205 zn_160 zo_160 (Or.inl rfl) (fun _ _ _ _ _ => rfl) rfl rfl (z_nmI (fun I64 e65 => ?_))
          have hv := hv I64 e65
          refine z_aload_n dX12_goOn_93 rfl ?_
          refine z_aload_n dX12_goOn_94 rfl ?_
          refine z_getI dX12_goOn_95 zf_X12_155 zn_160 zo_160 (fun _ _ _ _ _ => rfl) ?_
          refine z_putI dX12_goOn_98 zf_X12_198 zn_160 zo_160 (Or.inl rfl) (fun _ _ _ _ _ => rfl) rfl rfl (z_nmI (fun I66 e67 => ?_))
          have hv := hv I66 e67
          refine z_aload_n dX12_goOn_101 rfl ?_
          refine z_aload_n dX12_goOn_102 rfl ?_
          refine z_getI dX12_goOn_103 zf_X12_155 zn_160 zo_160 (fun _ _ _ _ _ => rfl) ?_
          refine z_putI dX12_goOn_106 zf_X12_195 zn_160 zo_160 (Or.inl rfl) (fun _ _ _ _ _ => rfl) rfl rfl (z_nmI (fun I68 e69 => ?_))
          have hv := hv I68 e69
          refine z_goto (tgt := 377) dX12_goOn_109 (by decide) ?_
          exact z_return dX12_goOn_377 rfl (Nat.le_refl _) (Nat.le_refl _) hv
      · have hv := hv.2 q41
        refine z_aload_n dX12_goOn_45 rfl ?_
        refine z_dup dX12_goOn_46 rfl ?_
        refine z_getI dX12_goOn_47 zf_X12_198 zn_160 zo_160 (fun _ _ _ _ _ => rfl) ?_
        refine z_iconst (v := 1) dX12_goOn_50 (by decide) ?_
        refine z_iadd dX12_goOn_51 ?_
        refine z_putI dX12_goOn_52 zf_X12_198 zn_160 zo_160 (Or.inl rfl) (fun _ _ _ _ _ => rfl) rfl rfl (z_nmI (fun I70 e71 => ?_))
        have hv := hv I70 e71
        refine z_goto (tgt := 8) dX12_goOn_55 (by decide) ?_
        exact hv
abbrev v_X12_goOn (d : Nat) (Q : zQt)  (I : zI) (L : zL) (P : zP) : Prop :=
  ∀ I1 : zI, I1 = zuI I 160 6 (I 160 7) →
  gw_X12_goOn (d + 1) Q 8 [some (.ref 160), none, none] [] I1 L P
set_option maxRecDepth 20000 in
theorem g_X12_goOn {d : Nat} {Q : zQt}  {I : zI} {L : zL} {P : zP} (hP : zPk P) (hv : v_X12_goOn d Q  I L P) : zM zm_X12_goOn (d + 1) 0 0 [.ref 160] I L P 205 Q := by
  unfold v_X12_goOn at hv
  refine zM_of (lv0 := [some (.ref 160), none, none]) (by decide +kernel) (Nat.le_of_ble_eq_true rfl) rfl ?_
  refine z_aload_n dX12_goOn_0 rfl ?_
  refine z_aload_n dX12_goOn_1 rfl ?_
  refine z_getI dX12_goOn_2 zf_X12_195 zn_160 zo_160 (fun _ _ _ _ _ => rfl) ?_
  refine z_putI dX12_goOn_5 zf_X12_198 zn_160 zo_160 (Or.inl rfl) (fun _ _ _ _ _ => rfl) rfl rfl (z_nmI (fun I1 e2 => ?_))
  have hv := hv I1 e2
  exact hv
abbrev gS : List Nat := [6, 7, 8, 9]
section GO
variable {d : Nat} {Q : zQt} {I0 : zI} {P : zP} {e : Nat}
theorem nLt0 : ¬ isLt 0 := fun h => h.1 (by decide)
theorem nDg0 : ¬ isDg 0 := fun h => h.1 (by decide)
/-- digits -/
theorem lp_X12_goOn_259 {L L0 : zL} (hP : zPk P) (hX : MX I0) (hL : zLn L0 L) (h : ¬ vSz I0 ≤ xT I0 e) (h1 : ¬ isLt (vTx I0 (xT I0 e))) (h2 : isDg (vTx I0 (xT I0 e)))
    (kk : ∀ I' L', zFr [] gS I0 I' → zLn L0 L' → MK I0 I' L' e → Q none I' L' P 205) :
    ∀ f c I, vSz I0 - c = f → xT I0 e ≤ c → c ≤ vSz I0 → rn (fun k => isDg (vTx I0 k)) (vSz I0) c = xE I0 e → zFr [] gS I0 I → I 160 6 = nI (xT I0 e) → I 160 7 = nI c → (c - xT I0 e ≤ 4 → I 160 9 = dV (vTx I0) (xT I0 e) (c - xT I0 e)) →
      gw_X12_goOn (d + 1) Q 259 [some (.ref 160), none, none] [] I L P := by
  obtain ⟨t1, t2, t3⟩ := xE_d h h1 h2
  have x1 := hX.1
  have stop : ∀ c I, xT I0 e ≤ c → c ≤ vSz I0 → ¬ (c < vSz I0 ∧ isDg (vTx I0 c)) → c = xE I0 e → zFr [] gS I0 I → I 160 6 = nI (xT I0 e) → I 160 7 = nI c → (c - xT I0 e ≤ 4 → I 160 9 = dV (vTx I0) (xT I0 e) (c - xT I0 e)) →
      gw_X12_goOn (d + 1) Q 259 [some (.ref 160), none, none] [] I L P := by
    intro c I hc1 hc2 hn ec hI e6 e7 e9
    obtain ⟨s1, s2, s3⟩ := sg_in hI (by decide) hX (show c < 2 ^ 31 by omega)
    have nd : ¬ isDg (sSg I (nI c)) := by
      by_cases q : c < vSz I0
      · rw [s2 q]; exact fun z => hn ⟨q, z⟩
      · rw [s3 q]; exact nDg0
    have lt : isLt (sSg I (nI c)) ↔ (c < vSz I0 ∧ isLt (vTx I0 c)) := by
      by_cases q : c < vSz I0
      · rw [s2 q]; exact ⟨fun z => ⟨q, z⟩, fun z => z.2⟩
      · rw [s3 q]; exact ⟨fun z => absurd z nLt0, fun z => absurd z.1 q⟩
    have sub : I 160 7 - I 160 6 = nI (c - xT I0 e) := by rw [e6, e7]; exact pk_sub hc1
    have fin : ∀ v, v = tCd (xK I0 e) → 274 ≤ xK I0 e → (xK I0 e = 274 → c - xT I0 e ≤ 4) → ∀ I1, I1 = zuI I 160 8 v → Q none I1 L P 205 := by
      intro v ev hk h4 I1 ei
      subst ei
      refine kk _ L (zFr_s hI (by decide)) hL ⟨by rw [zuI_o (by decide)]; exact e6, by rw [zuI_o (by decide), e7, ec], by rw [zuI_v]; exact ev, fun _ z => absurd z (by omega), fun z => ?_⟩
      rw [zuI_o (by decide), e9 (h4 z), ec]
      rfl
    rw [ec] at lt
    refine g_X12_goOn_259 hP ⟨by rw [e7]; exact s1, fun _ => ⟨fun q => ?_, fun q => ⟨fun q2 => ?_, fun q2 => ?_⟩⟩, fun q => absurd q (by rw [e7, bP_n]; exact nd)⟩
    · rw [sub, show (4 : Int32) = nI 4 from rfl, nI_ltI (by decide) (by omega), ec] at q
      have := t2 (Or.inl q)
      exact fin 1 (by rw [this]; rfl) (by rw [this]; decide) (fun z => by rw [this] at z; exact absurd z (by decide))
    · rw [sub, show (4 : Int32) = nI 4 from rfl, nI_ltI (by decide) (by omega), ec] at q
      rw [e7, ec, bP_0, lt] at q2
      have := t3 (fun z => z.elim q q2)
      exact fin 4 (by rw [this]; rfl) (by rw [this]; decide) (fun _ => by rw [ec]; omega)
    · rw [e7, ec, bP_n, lt] at q2
      have := t2 (Or.inr q2)
      exact fin 1 (by rw [this]; rfl) (by rw [this]; decide) (fun z => by rw [this] at z; exact absurd z (by decide))
  intro f
  induction f with
  | zero =>
    intro c I hf hc1 hc2 hr
    have hn : ¬ (c < vSz I0 ∧ isDg (vTx I0 c)) := fun z => by have := z.1; omega
    exact stop c I hc1 hc2 hn (by rw [← hr]; exact (rn_0 hn).symm)
  | succ f ih =>
    intro c I hf hc1 hc2 hr hI e6 e7 e9
    by_cases hn : c < vSz I0 ∧ isDg (vTx I0 c)
    · obtain ⟨s1, s2, s3⟩ := sg_in hI (by decide) hX (show c < 2 ^ 31 by omega)
      have sub : I 160 7 - I 160 6 = nI (c - xT I0 e) := by rw [e6, e7]; exact pk_sub hc1
      have hr' : rn (fun k => isDg (vTx I0 k)) (vSz I0) (c + 1) = xE I0 e := by rw [← hr]; exact (rn_s (p := fun k => isDg (vTx I0 k)) hn.1 hn.2).symm
      refine g_X12_goOn_259 hP ⟨by rw [e7]; exact s1, fun q => absurd hn.2 (by rw [e7, s2 hn.1, bP_0] at q; exact q), fun _ => ⟨fun q I1 ei => ?_, fun q I1 ei I2 ei2 => ?_⟩⟩
      · subst ei
        rw [sub, show (4 : Int32) = nI 4 from rfl, nI_leI (by decide) (by omega)] at q
        refine ih (c + 1) _ (by omega) (by omega) (by omega) hr' (zFr_s hI (by decide)) (by rw [zuI_o (by decide)]; exact e6) (by rw [zuI_v, e7, nI_1]) (fun z => absurd z (by omega))
      · subst ei
        subst ei2
        rw [sub, show (4 : Int32) = nI 4 from rfl, nI_leI (by decide) (by omega)] at q
        refine ih (c + 1) _ (by omega) (by omega) (by omega) hr' (zFr_s (zFr_s hI (by decide)) (by decide)) (by rw [zuI_o (by decide), zuI_o (by decide)]; exact e6) (by rw [zuI_v, zuI_o (by decide), e7, nI_1]) (fun _ => ?_)
        rw [zuI_o (by decide), zuI_v, e9 (by omega), e7, s2 hn.1, show c + 1 - xT I0 e = (c - xT I0 e) + 1 by omega]
        show _ = (10 * dV (vTx I0) (xT I0 e) (c - xT I0 e) + vTx I0 (xT I0 e + (c - xT I0 e))) - 48
        rw [show xT I0 e + (c - xT I0 e) = c by omega]
    · exact stop c I hc1 hc2 hn (by rw [← hr]; exact (rn_0 hn).symm) hI e6 e7 e9
/-- the name -/
theorem lp_X12_goOn_156 {L0 : zL} {I : zI} (hP : zPk P) (hX : MX I0) (h : ¬ vSz I0 ≤ xT I0 e) (h1 : isLt (vTx I0 (xT I0 e))) (hI : zFr [] gS I0 I) (e6 : I 160 6 = nI (xT I0 e)) (e7 : I 160 7 = nI (xE I0 e)) (hE : xT I0 e ≤ xE I0 e) (hE2 : xE I0 e ≤ vSz I0)
    (kk : ∀ I' L', zFr [] gS I0 I' → zLn L0 L' → MK I0 I' L' e → Q none I' L' P 205) :
    ∀ f m L, 8 - m = f → m ≤ 8 → xT I0 e + m ≤ xE I0 e → zLn L0 L → L 160 10 = wV (vTx I0) (xT I0 e) m → gw_X12_goOn (d + 1) Q 156 [some (.ref 160), none, some (.int (nI (xT I0 e + m)))] [] I L P := by
  obtain ⟨t1, t2, t3⟩ := xE_l h h1
  have x1 := hX.1
  have sub : I 160 7 - I 160 6 = nI (xE I0 e - xT I0 e) := by rw [e6, e7]; exact pk_sub hE
  have fin : ∀ m L, (xT I0 e + m = xE I0 e ∨ m = 8) → m ≤ 8 → xT I0 e + m ≤ xE I0 e → zLn L0 L → L 160 10 = wV (vTx I0) (xT I0 e) m →
      ((((I 160 7) - (I 160 6)) ≤ 8 →
      (((bP ((L 160 10) ∈ wdL)) = 0 →
        ∀ I114 : zI, I114 = zuI I 160 8 2 →
        Q none I114 L P 205
      ) ∧ (¬ (bP ((L 160 10) ∈ wdL)) = 0 →
        ∀ I116 : zI, I116 = zuI I 160 8 3 →
        Q none I116 L P 205
      ))
    ) ∧ (¬ ((I 160 7) - (I 160 6)) ≤ 8 →
      ∀ I118 : zI, I118 = zuI I 160 8 1 →
      Q none I118 L P 205
    )) := by
    intro m L hm hm8 hme hL eL
    have fin2 : ∀ v, v = tCd (xK I0 e) → xK I0 e ≠ 274 → (256 ≤ xK I0 e → xK I0 e ≤ 273 → L 160 10 = xV I0 e) → ∀ I1, I1 = zuI I 160 8 v → Q none I1 L P 205 := by
      intro v ev hk h4 I1 ei
      subst ei
      exact kk _ L (zFr_s hI (by decide)) hL ⟨by rw [zuI_o (by decide)]; exact e6, by rw [zuI_o (by decide)]; exact e7, by rw [zuI_v]; exact ev, h4, fun z => absurd z hk⟩
    refine ⟨fun q => ?_, fun q => ?_⟩
    · rw [sub, show (8 : Int32) = nI 8 from rfl, nI_leI (by omega) (by decide)] at q
      have hk := t3 (by omega)
      have em : m = xE I0 e - xT I0 e := by omega
      have eL' : L 160 10 = xV I0 e := by rw [eL, em]; rfl
      refine ⟨fun q2 => ?_, fun q2 => ?_⟩
      · rw [eL', bP_0] at q2
        rw [wIx_f q2] at hk
        exact fin2 2 (by rw [hk]; rfl) (by rw [hk]; decide) (fun _ _ => eL')
      · rw [eL', bP_n] at q2
        obtain ⟨w1, w2, w3⟩ := wIx_t q2
        exact fin2 3 (by rw [hk]; exact w1.symm) (by rw [hk]; omega) (fun _ _ => eL')
    · rw [sub, show (8 : Int32) = nI 8 from rfl, nI_leI (by omega) (by decide)] at q
      have hk := t2 (by omega)
      exact fin2 1 (by rw [hk]; rfl) (by rw [hk]; decide) (fun _ z => by rw [hk] at z; exact absurd z (by decide))
  intro f
  induction f with
  | zero =>
    intro m L hf hm8 hme hL eL
    have hm : m = 8 := by omega
    subst hm
    refine g_X12_goOn_156 hP ⟨fun _ => fin 8 L (Or.inr rfl) hm8 hme hL eL, fun q => ⟨fun _ => fin 8 L (Or.inr rfl) hm8 hme hL eL, fun q2 => absurd ?_ q2⟩⟩
    rw [e6, show (8 : Int32) = nI 8 from rfl, nI_add]
    exact nI_le (Nat.le_refl _) (by omega)
  | succ f ih =>
    intro m L hf hm8 hme hL eL
    refine g_X12_goOn_156 hP ⟨fun q => fin m L (Or.inl ?_) hm8 hme hL eL, fun q => ⟨fun q2 => absurd q2 ?_, fun q2 => ?_⟩⟩
    · rw [e7, nI_leI (by omega) (by omega)] at q
      omega
    · rw [e6, show (8 : Int32) = nI 8 from rfl, nI_add]
      exact nI_ge (by omega) (by omega)
    · rw [e7, nI_leI (by omega) (by omega)] at q
      obtain ⟨s1, s2, s3⟩ := sg_in hI (by decide) hX (show xT I0 e + m < 2 ^ 31 by omega)
      refine ⟨s1, fun L1 el => ?_⟩
      subst el
      rw [nI_1, Nat.add_assoc]
      refine ih (m + 1) _ (by omega) (by omega) (by omega) (zLn_tr hL (zLn_u _ _)) ?_
      rw [zuL_v, eL, s2 (by omega)]
      rfl
theorem lp_X12_goOn_119 {L : zL} (hP : zPk P) (hX : MX I0) (h : ¬ vSz I0 ≤ xT I0 e) (h1 : isLt (vTx I0 (xT I0 e)))
    (kk : ∀ I' L', zFr [] gS I0 I' → zLn L L' → MK I0 I' L' e → Q none I' L' P 205) :
    ∀ f c I, vSz I0 - c = f → xT I0 e ≤ c → c ≤ vSz I0 → rn (fun k => isLt (vTx I0 k)) (vSz I0) c = xE I0 e → zFr [] gS I0 I → I 160 6 = nI (xT I0 e) → I 160 7 = nI c →
      gw_X12_goOn (d + 1) Q 119 [some (.ref 160), none, none] [] I L P := by
  have x1 := hX.1
  have stop : ∀ c I, xT I0 e ≤ c → c ≤ vSz I0 → ¬ (c < vSz I0 ∧ isLt (vTx I0 c)) → c = xE I0 e → zFr [] gS I0 I → I 160 6 = nI (xT I0 e) → I 160 7 = nI c →
      gw_X12_goOn (d + 1) Q 119 [some (.ref 160), none, none] [] I L P := by
    intro c I hc1 hc2 hn ec hI e6 e7
    obtain ⟨s1, s2, s3⟩ := sg_in hI (by decide) hX (show c < 2 ^ 31 by omega)
    have nd : ¬ isLt (sSg I (nI c)) := by
      by_cases q : c < vSz I0
      · rw [s2 q]; exact fun z => hn ⟨q, z⟩
      · rw [s3 q]; exact nLt0
    refine g_X12_goOn_119 hP ⟨by rw [e7]; exact s1, fun _ L1 el => ?_, fun q => absurd q (by rw [e7, bP_n]; exact nd)⟩
    subst el
    rw [e6]
    have := lp_X12_goOn_156 (d := d) (Q := Q) (L0 := L) hP hX h h1 hI e6 (by rw [e7, ec]) (by omega) (by omega) kk 8 0 (zuL L 160 10 0) rfl (by decide) (by omega) (zLn_u _ _) (by rw [zuL_v]; rfl)
    exact this
  intro f
  induction f with
  | zero =>
    intro c I hf hc1 hc2 hr
    have hn : ¬ (c < vSz I0 ∧ isLt (vTx I0 c)) := fun z => by have := z.1; omega
    exact stop c I hc1 hc2 hn (by rw [← hr]; exact (rn_0 hn).symm)
  | succ f ih =>
    intro c I hf hc1 hc2 hr hI e6 e7
    by_cases hn : c < vSz I0 ∧ isLt (vTx I0 c)
    · obtain ⟨s1, s2, s3⟩ := sg_in hI (by decide) hX (show c < 2 ^ 31 by omega)
      have hr' : rn (fun k => isLt (vTx I0 k)) (vSz I0) (c + 1) = xE I0 e := by rw [← hr]; exact (rn_s (p := fun k => isLt (vTx I0 k)) hn.1 hn.2).symm
      refine g_X12_goOn_119 hP ⟨by rw [e7]; exact s1, fun q => absurd hn.2 (by rw [e7, s2 hn.1, bP_0] at q; exact q), fun _ I1 ei => ?_⟩
      subst ei
      exact ih (c + 1) _ (by omega) (by omega) (by omega) hr' (zFr_s hI (by decide)) (by rw [zuI_o (by decide)]; exact e6) (by rw [zuI_v, e7, nI_1])
    · exact stop c I hc1 hc2 hn (by rw [← hr]; exact (rn_0 hn).symm) hI e6 e7
theorem lp_X12_goOn_8 {L : zL} (hP : zPk P) (hX : MX I0)
    (kk : ∀ I' L', zFr [] gS I0 I' → zLn L L' → MK I0 I' L' e → Q none I' L' P 205) :
    ∀ f c I, vSz I0 - c = f → c ≤ vSz I0 → rn (fun k => isBl (vTx I0 k)) (vSz I0) c = xT I0 e → zFr [] gS I0 I → I 160 6 = nI c →
      gw_X12_goOn (d + 1) Q 8 [some (.ref 160), none, none] [] I L P := by
  have x1 := hX.1
  intro f
  induction f with
  | zero =>
    intro c I hf hc hr hI e6
    have ec : c = vSz I0 := by omega
    have eA : xT I0 e = c := by rw [← hr]; exact rn_0 (fun z => by have := z.1; omega)
    obtain ⟨s1, s2, s3⟩ := sg_in hI (by decide) hX (show c < 2 ^ 31 by omega)
    have e3 : I 160 3 = nI (vSz I0) := by rw [hI.2 3 (by decide)]; exact hX.2
    obtain ⟨t1, t2⟩ := xE_0 (I0 := I0) (e := e) (by omega)
    refine g_X12_goOn_8 hP ⟨fun _ => ⟨by rw [e6]; exact s1, fun I1 ei => ?_⟩, fun q => absurd (by rw [e3, e6]; exact nI_le (by omega) (by omega)) q⟩
    subst ei
    rw [zuI_o (by decide), zuI_o (by decide), e6, e3]
    refine ⟨fun q => absurd q (Int32.not_lt.mpr (nI_le (by omega) (by omega))), fun _ I2 e2 I3 e3' I4 e4 => ?_⟩
    subst e2
    subst e3'
    subst e4
    rw [zuI_o (show (3 : Nat) ≠ 6 by decide), zuI_o (show (3 : Nat) ≠ 8 by decide), zuI_o (show (3 : Nat) ≠ 7 by decide), e3]
    refine kk _ L (zFr_s (zFr_s (zFr_s (zFr_s hI (by decide)) (by decide)) (by decide)) (by decide)) (zLn_rf L) ⟨?_, ?_, ?_, fun _ z => ?_, fun z => ?_⟩
    · rw [zuI_o (by decide), zuI_v]; exact nIe (by show vSz I0 = xT I0 e; omega)
    · rw [zuI_v]; exact nIe t1.symm
    · rw [zuI_o (by decide), zuI_o (by decide), zuI_v, t2]; rfl
    · rw [t2] at z; exact absurd z (by decide)
    · rw [t2] at z; exact absurd z (by decide)
  | succ f ih =>
    intro c I hf hc hr hI e6
    have hlt : c < vSz I0 := by omega
    obtain ⟨s1, s2, s3⟩ := sg_in hI (by decide) hX (show c < 2 ^ 31 by omega)
    have s2 := s2 hlt
    have e3 : I 160 3 = nI (vSz I0) := by rw [hI.2 3 (by decide)]; exact hX.2
    refine g_X12_goOn_8 hP ⟨fun q => absurd q (by rw [e3, e6]; exact nI_ge hlt (by omega)), fun _ => ?_⟩
    rw [e6, s2]
    have blank : isBl (vTx I0 c) → ∀ I1, I1 = zuI I 160 6 (nI c + 1) → gw_X12_goOn (d + 1) Q 8 [some (.ref 160), none, none] [] I1 L P := by
      intro hb I1 ei
      subst ei
      rw [nI_1]
      exact ih (c + 1) _ (by omega) (by omega) (by rw [← hr]; exact (rn_s (p := fun k => isBl (vTx I0 k)) hlt hb).symm) (zFr_s hI (by decide)) (zuI_v _ _ _ _)
    refine ⟨s1, fun q => blank (Or.inl q), fun q => ⟨fun q2 I1 ei => ?_, fun q2 => blank (Or.inr q2)⟩⟩
    have hb : ¬ isBl (vTx I0 c) := fun z => z.elim q q2
    have eA : xT I0 e = c := by rw [← hr]; exact rn_0 (fun z => hb z.2)
    have hA : ¬ vSz I0 ≤ xT I0 e := by omega
    subst ei
    rw [zuI_o (by decide), zuI_o (by decide), e6, e3]
    refine ⟨fun _ => ⟨fun q3 => ⟨fun q4 => ⟨fun q5 I2 e2 => ?_, fun q5 I2 e2 => ?_⟩, fun q4 I2 e2 I3 e3' => ?_⟩, fun q3 => ?_⟩, fun q3 => absurd (Int32.not_le.mp (nI_ge hlt (by omega))) q3⟩
    · rw [bP_0, ← eA] at q3 q4 q5
      obtain ⟨t1, t2, t3⟩ := xE_s hA q3 q4
      have hk := t3 q5
      subst e2
      refine kk _ L (zFr_s (zFr_s hI (by decide)) (by decide)) (zLn_rf L) ⟨?_, ?_, ?_, fun _ z => ?_, fun z => ?_⟩
      · rw [zuI_o (by decide), zuI_o (by decide), e6]; exact nIe eA.symm
      · rw [zuI_o (by decide), zuI_v, nI_1]; exact nIe (by rw [t1]; omega)
      · rw [zuI_v, hk]; rfl
      · rw [hk] at z; exact absurd z (by decide)
      · rw [hk] at z; exact absurd z (by decide)
    · rw [bP_0, ← eA] at q3 q4
      rw [bP_n, ← eA] at q5
      obtain ⟨t1, t2, t3⟩ := xE_s hA q3 q4
      have hk := t2 q5
      obtain ⟨g1, g2, g3⟩ := sg_cd q5
      subst e2
      refine kk _ L (zFr_s (zFr_s hI (by decide)) (by decide)) (zLn_rf L) ⟨?_, ?_, ?_, fun z _ => ?_, fun z => ?_⟩
      · rw [zuI_o (by decide), zuI_o (by decide), e6]; exact nIe eA.symm
      · rw [zuI_o (by decide), zuI_v, nI_1]; exact nIe (by rw [t1]; omega)
      · rw [zuI_v, hk]; exact g1.symm
      · rw [hk] at z; omega
      · rw [hk] at z; omega
    · rw [bP_0, ← eA] at q3
      rw [bP_n, ← eA] at q4
      obtain ⟨t1, -⟩ := xE_d hA q3 q4
      subst e2
      subst e3'
      rw [zuI_o (show (6 : Nat) ≠ 9 by decide), zuI_o (show (6 : Nat) ≠ 7 by decide), e6]
      refine lp_X12_goOn_259 (L0 := L) hP hX (zLn_rf L) hA q3 q4 kk (vSz I0 - c) c _ rfl (by omega) hc (by rw [← eA]; exact t1.symm) (zFr_s (zFr_s (zFr_s hI (by decide)) (by decide)) (by decide)) ?_ (zuI_v _ _ _ _) (fun _ => ?_)
      · rw [zuI_o (by decide), zuI_o (by decide), zuI_o (by decide), e6]; exact nIe eA.symm
      · rw [zuI_o (by decide), zuI_v, show c - xT I0 e = 0 by omega]; rfl
    · rw [bP_n, ← eA] at q3
      obtain ⟨t1, -⟩ := xE_l hA q3
      refine lp_X12_goOn_119 hP hX hA q3 kk (vSz I0 - (c + 1)) (c + 1) _ rfl (by omega) hlt ?_ (zFr_s hI (by decide)) ?_ ?_
      · rw [← rn_s (p := fun k => isLt (vTx I0 k)) hlt (by rw [← eA]; exact q3), t1]; show _ = rn _ _ (xT I0 e); rw [eA]
      · rw [zuI_o (by decide), e6]; exact nIe eA.symm
      · rw [zuI_v, nI_1]
end GO
/-- the next token -/
theorem sp_X12_goOn {d : Nat} {I0 I : zI} {L : zL} {P : zP} {e : Nat} (hP : zPk P) (hX : MX I0) (hf : zFr [] gS I0 I) (he : e ≤ vSz I0) (h7 : I 160 7 = nI e) (hd : 1 ≤ d) {K : zI → zL → zP → Prop} (kk : ∀ I' L', zFr [] gS I0 I' → zLn L L' → MK I0 I' L' e → K I' L' P) : zMv zm_X12_goOn d [.ref 160] I L P K := by
  obtain ⟨d, rfl⟩ : ∃ e, d = e + 1 := ⟨d - 1, by omega⟩
  refine g_X12_goOn hP (fun I1 e1 => ?_)
  subst e1
  exact lp_X12_goOn_8 hP hX (fun I' L' h1 h2 h3 => qv (kk I' L' h1 h2 h3)) (vSz I0 - e) e _ rfl he rfl (zFr_s hf (by decide)) (by rw [zuI_v, h7])
