/-! ===== only the text below its size counts ===== -/
theorem rn_c {p q : Nat → Prop} {n : Nat} (h : ∀ k, k < n → (p k ↔ q k)) (e : Nat) : rn p n e = rn q n e := by
  have key : ∀ f e, rnF p n f e = rnF q n f e := by
    intro f
    induction f with
    | zero => intro e; rfl
    | succ f ih =>
      intro e
      show @ite _ (e < n ∧ p e) (Classical.propDecidable _) (rnF p n f (e + 1)) e = @ite _ (e < n ∧ q e) (Classical.propDecidable _) (rnF q n f (e + 1)) e
      by_cases c : e < n ∧ p e
      · rw [if_pos c, if_pos ⟨c.1, (h e c.1).mp c.2⟩]; exact ih _
      · rw [if_neg c, if_neg (fun z => c ⟨z.1, (h e z.1).mpr z.2⟩)]
  exact key _ e
section TXC
variable {T T' : Nat → Int32} {n : Nat}
theorem tA_cg (h : ∀ k, k < n → T k = T' k) : tA T n = tA T' n := funext fun e => rn_c (fun k hk => by rw [h k hk]) e
theorem tE_cg (h : ∀ k, k < n → T k = T' k) : tE T n = tE T' n := by
  funext e
  have hA : tA T n e = tA T' n e := by rw [tA_cg h]
  unfold tE
  rw [← hA]
  by_cases c : n ≤ tA T n e
  · rw [if_pos c, if_pos c]
  · rw [if_neg c, if_neg c, h _ (by omega), rn_c (q := fun k => isLt (T' k)) (fun k hk => by rw [h k hk]), rn_c (p := fun k => isDg (T k)) (q := fun k => isDg (T' k)) (fun k hk => by rw [h k hk])]
theorem tE_rg (e : Nat) : tA T n e + (tE T n e - tA T n e) ≤ n ∨ tE T n e - tA T n e = 0 := by
  by_cases c : n ≤ tA T n e
  · right; rw [(tE_0 c).1]; omega
  · left
    have l : e ≤ n := by
      have := rn_ge (fun k => isBl (T k)) n e
      unfold tA at c
      omega
    have := tE_le (T := T) (n := n) l
    omega
theorem wV_cg (h : ∀ k, k < n → T k = T' k) (a : Nat) : ∀ m, a + m ≤ n → wV T a m = wV T' a m
  | 0, _ => rfl
  | m + 1, hm => by
    unfold wV
    rw [wV_cg h a m (by omega), h (a + m) (by omega)]
theorem dV_cg (h : ∀ k, k < n → T k = T' k) (a : Nat) : ∀ m, a + m ≤ n → dV T a m = dV T' a m
  | 0, _ => rfl
  | m + 1, hm => by
    unfold dV
    rw [dV_cg h a m (by omega), h (a + m) (by omega)]
theorem tV_cg (h : ∀ k, k < n → T k = T' k) : tV T n = tV T' n := by
  funext e
  unfold tV
  rw [← tA_cg h, ← tE_cg h]
  rcases tE_rg (T := T) (n := n) e with z | z
  · exact wV_cg h _ _ z
  · rw [z]; rfl
theorem tN_cg (h : ∀ k, k < n → T k = T' k) : tN T n = tN T' n := by
  funext e
  unfold tN
  rw [← tA_cg h, ← tE_cg h]
  rcases tE_rg (T := T) (n := n) e with z | z
  · exact dV_cg h _ _ z
  · rw [z]; rfl
theorem tK_cg (h : ∀ k, k < n → T k = T' k) : tK T n = tK T' n := by
  funext e
  have hA : tA T n = tA T' n := tA_cg h
  have hE : tE T n = tE T' n := tE_cg h
  have hV : wV T (tA T n e) (tE T n e - tA T n e) = wV T' (tA T n e) (tE T n e - tA T n e) := by
    have : tV T n e = tV T' n e := by rw [tV_cg h]
    unfold tV at this
    rw [← hA, ← hE] at this
    exact this
  unfold tK
  rw [← hA, ← hE, hV]
  by_cases c : n ≤ tA T n e
  · rw [if_pos c, if_pos c]
  · have l : (tE T n e < n ∧ isLt (T (tE T n e))) ↔ (tE T n e < n ∧ isLt (T' (tE T n e))) :=
      ⟨fun z => ⟨z.1, by rw [← h _ z.1]; exact z.2⟩, fun z => ⟨z.1, by rw [h _ z.1]; exact z.2⟩⟩
    rw [if_neg c, if_neg c, h _ (by omega), propext l]
theorem mis_cg (h : ∀ k, k < n → T k = T' k) : mis T n = mis T' n := by
  funext e; unfold mis; rw [tK_cg h]
theorem dBad_cg (h : ∀ k, k < n → T k = T' k) : dBad T n = dBad T' n := by
  funext e; unfold dBad; rw [mis_cg h, tA_cg h]
theorem dBr_cg (h : ∀ k, k < n → T k = T' k) : dBr T n = dBr T' n := by
  funext k v a; unfold dBr; rw [tK_cg h, tE_cg h, dBad_cg h]
theorem dCon_cg (h : ∀ k, k < n → T k = T' k) : dCon T n = dCon T' n := by
  funext k v w e u r; unfold dCon; rw [tK_cg h, tE_cg h, dBad_cg h, dBr_cg h]
theorem dR_cg {nm : Int64 → Option Nat} {lim : Nat} (h : ∀ k, k < n → T k = T' k) : ∀ f, dR T n nm lim f = dR T' n nm lim f
  | 0 => by funext x; rfl
  | f + 1 => by
    funext x
    match x with
    | .inl (t, w, e, u) => unfold dR; rw [dR_cg h f, tK_cg h, tE_cg h]
    | .inr (.inl (t, hi, w, e, u, c)) => unfold dR; rw [dR_cg h f, tK_cg h, tE_cg h]
    | .inr (.inr (w, e, u)) => unfold dR; rw [dR_cg h f, tK_cg h, tE_cg h, tV_cg h, tN_cg h, tA_cg h, dBad_cg h, dCon_cg h]
theorem fRd_cg {nm : Int64 → Option Nat} {lim : Nat} (h : ∀ k, k < n → T k = T' k) : fRd T n nm lim = fRd T' n nm lim := by
  funext e u; unfold fRd; rw [dR_cg h]
theorem aRd_cg {nm : Int64 → Option Nat} (h : ∀ k, k < n → T k = T' k) : aRd T n nm = aRd T' n nm := by
  unfold aRd; rw [fRd_cg h, tK_cg h, mis_cg h, tA_cg h]
end TXC
/-! ===== the class: a formula alone ===== -/
section RA
variable {d : Nat} {I : zI} {L : zL} {P : zP} {T : Nat → Int32} {n t np cc lim : Nat}
def pRd (P : zP) (t cc : Nat) : zP := zuP (zuP P 17 3 (some t)) 17 4 (some cc)
theorem zst_17 : zst 17 3 = none ∧ zst 17 4 = none := by decide +kernel
theorem pRd_k (hP : zPk P) : zPk (pRd P t cc) := zPk_u zst_17.2 (zPk_u zst_17.1 hP)
theorem pRd_o {a k : Nat} (h : a ≠ 17) : pRd P t cc a k = P a k := by unfold pRd; rw [zuP_ne h, zuP_ne h]
abbrev gw_X5_begin (d : Nat) (Q : zQt) (pc : Nat) (lv : zV) (st : List Value) (I : zI) (L : zL) (P : zP) : Prop := zW zm_X5_begin (zRm d 0 0) 0 0 Q pc lv st I L P 205 0 0
abbrev v_X5_begin (d : Nat) (Q : zQt) (p1 : Nat) (p2 : Nat) (p3 : Int32) (I : zI) (L : zL) (P : zP) : Prop :=
  ∀ P1 : zP, P1 = zuP P 17 3 (some p1) →
  ∀ P3 : zP, P3 = zuP P1 17 4 (some p2) →
  ∀ I5 : zI, I5 = zuI I 17 5 p3 →
  ∀ I7 : zI, I7 = zuI I5 17 6 0 →
  ∀ I9 : zI, I9 = zuI I7 17 0 0 →
  ∀ I11 : zI, I11 = zuI I9 17 1 (-1) →
  zPk P3 ∧
  zMv zm_X9_scan d [.ref 18] I11 L P3 (fun I14 L15 P16 =>
    ∀ I19 : zI, I19 = zuI I14 17 7 0 →
    zPk P16 ∧
    zMi zm_X9_kindOf d [.ref 18, .int 0] I19 L15 P16 (fun r26 I22 L23 P24 =>
      ∀ I27 : zI, I27 = zuI I22 17 8 r26 →
      Q none I27 L23 P24 205
    )
  )
set_option maxRecDepth 20000 in
theorem g_X5_begin {d : Nat} {Q : zQt} {p1 : Nat} {p2 : Nat} {p3 : Int32} {I : zI} {L : zL} {P : zP} (hP : zPk P) (hv : v_X5_begin d Q p1 p2 p3 I L P) : zM zm_X5_begin (d + 1) 0 0 [.ref 17, .ref p1, .ref p2, .int p3] I L P 205 Q := by
  unfold v_X5_begin at hv
  refine zM_of (lv0 := [some (.ref 17), some (.ref p1), some (.ref p2), some (.int p3)]) (by decide +kernel) (Nat.le_of_ble_eq_true rfl) rfl ?_
  refine z_aload_n dX5_begin_0 rfl ?_
  refine z_aload_n dX5_begin_1 rfl ?_
  refine z_putP dX5_begin_2 zf_X5_41 zn_17 zo_17 (Or.inl rfl) (fun _ _ _ _ _ => rfl) (fun _ => rfl) (fun _ => rfl) (z_nmP (fun P1 e2 => ?_))
  have hv := hv P1 e2
  refine z_aload_n dX5_begin_5 rfl ?_
  refine z_aload_n dX5_begin_6 rfl ?_
  refine z_putP dX5_begin_7 zf_X5_45 zn_17 zo_17 (Or.inl rfl) (fun _ _ _ _ _ => rfl) (fun _ => rfl) (fun _ => rfl) (z_nmP (fun P3 e4 => ?_))
  have hv := hv P3 e4
  refine z_aload_n dX5_begin_10 rfl ?_
  refine z_iload_n dX5_begin_11 rfl ?_
  refine z_putI dX5_begin_12 zf_X5_18 zn_17 zo_17 (Or.inl rfl) (fun _ _ _ _ _ => rfl) rfl rfl (z_nmI (fun I5 e6 => ?_))
  have hv := hv I5 e6
  refine z_aload_n dX5_begin_15 rfl ?_
  refine z_iconst (v := 0) dX5_begin_16 (by decide) ?_
  refine z_putI dX5_begin_17 zf_X5_21 zn_17 zo_17 (Or.inl rfl) (fun _ _ _ _ _ => rfl) rfl rfl (z_nmI (fun I7 e8 => ?_))
  have hv := hv I7 e8
  refine z_aload_n dX5_begin_20 rfl ?_
  refine z_iconst (v := 0) dX5_begin_21 (by decide) ?_
  refine z_putI dX5_begin_22 zf_X5_9 zn_17 zo_17 (Or.inl rfl) (fun _ _ _ _ _ => rfl) rfl rfl (z_nmI (fun I9 e10 => ?_))
  have hv := hv I9 e10
  refine z_aload_n dX5_begin_25 rfl ?_
  refine z_iconst (v := (-1)) dX5_begin_26 (by decide) ?_
  refine z_putI dX5_begin_27 zf_X5_15 zn_17 zo_17 (Or.inl rfl) (fun _ _ _ _ _ => rfl) rfl rfl (z_nmI (fun I11 e12 => ?_))
  have hv := hv I11 e12
  refine z_aload_n dX5_begin_30 rfl ?_
  obtain ⟨h13, hv⟩ := hv
  refine z_getP dX5_begin_31 zf_X5_37 zn_17 zo_17 (fun _ _ _ _ _ => rfl) (h13 17 2 18 zp_17_2) ?_
  refine z_callV (As := []) (st := []) dX5_begin_34 zl_X5_90 zv_X9_scan (by decide) rfl zn_18 zo_18 rfl rfl (Nat.le_of_ble_eq_true rfl) ⟨Nat.le_refl _, Nat.le_refl _⟩ ⟨Nat.le_refl _, Nat.le_refl _⟩ hv (fun v1 I14 L15 P16 nx1 q17 => ?_)
  obtain ⟨rfl, rfl, hv⟩ := q17
  refine z_aload_n dX5_begin_37 rfl ?_
  refine z_iconst (v := 0) dX5_begin_38 (by decide) ?_
  refine z_putI dX5_begin_39 zf_X5_24 zn_17 zo_17 (Or.inl rfl) (fun _ _ _ _ _ => rfl) rfl rfl (z_nmI (fun I19 e20 => ?_))
  have hv := hv I19 e20
  refine z_aload_n dX5_begin_42 rfl ?_
  refine z_aload_n dX5_begin_43 rfl ?_
  obtain ⟨h21, hv⟩ := hv
  refine z_getP dX5_begin_44 zf_X5_37 zn_17 zo_17 (fun _ _ _ _ _ => rfl) (h21 17 2 18 zp_17_2) ?_
  refine z_iconst (v := 0) dX5_begin_47 (by decide) ?_
  refine z_callV (As := [.int 0]) (st := [.ref 17]) dX5_begin_48 zl_X5_93 zv_X9_kindOf (by decide) rfl zn_18 zo_18 rfl rfl (Nat.le_of_ble_eq_true rfl) ⟨Nat.le_refl _, Nat.le_refl _⟩ ⟨Nat.le_refl _, Nat.le_refl _⟩ hv (fun v1 I22 L23 P24 nx1 q25 => ?_)
  obtain ⟨rfl, r26, rfl, hv⟩ := q25
  refine z_putI dX5_begin_51 zf_X5_29 zn_17 zo_17 (Or.inl rfl) (fun _ _ _ _ _ => rfl) rfl rfl (z_nmI (fun I27 e28 => ?_))
  have hv := hv I27 e28
  exact z_return dX5_begin_54 rfl (Nat.le_refl _) (Nat.le_refl _) hv
theorem sp_X5_begin (hP : zPk P) (hT : tpR I T n) (hw : wdR L) (hH : iH t np I) (hc : co cc) (hl : lim ≤ 60) (hd : 7 ≤ d) {K : zI → zL → zP → Prop}
    (kk : ∀ I' L', zPk (pRd P t cc) → rX (pRd P t cc) t np cc lim I' → rG T n I' L' 0 → I' 17 6 = nI 0 → cFr [17, 18, 20, 21] I I' → (∀ x, x ≠ 22 → L' x = L x) → K I' L' (pRd P t cc)) : zMv zm_X5_begin d [.ref 17, .ref t, .ref cc, .int (nI lim)] I L P K := by
  obtain ⟨d, rfl⟩ : ∃ e, d = e + 1 := ⟨d - 1, by omega⟩
  have hP3 := pRd_k (t := t) (cc := cc) hP
  refine g_X5_begin hP (fun P1 e1 P3 e3 I5 e5 I7 e7 I9 e9 I11 e11 => ?_)
  have eP : P3 = pRd P t cc := by rw [e3, e1]; rfl
  rw [eP]
  have f0 : cFr [17, 18, 20, 21] I I11 := by rw [e11, e9, e7, e5]; exact cFr_c (cFr_c (cFr_c (cFr_c (cFr_rf _ _) (by simp)) (by simp)) (by simp)) (by simp)
  have s5 : I11 17 5 = nI lim := by rw [e11, zuI_o (by decide), e9, zuI_o (by decide), e7, zuI_o (by decide), e5, zuI_v]
  have s6 : I11 17 6 = 0 := by rw [e11, zuI_o (by decide), e9, zuI_o (by decide), e7, zuI_v]
  have s0 : I11 17 0 = 0 := by rw [e11, zuI_o (by decide), e9, zuI_v]
  have s1 : I11 17 1 = -1 := by rw [e11, zuI_v]
  refine ⟨hP3, sp_X9_scan hP3 (tpR_c hT (f0 1 (by decide)) (f0 2 (by decide))) hw (by omega) (fun I14 L15 c a1 a2 a3 I19 e19 => ⟨hP3, ?_⟩)⟩
  have r1 : tkR T n I19 L15 c := tkR_c a3 (by rw [e19, zuI_ne (by decide)]) (by rw [e19, zuI_ne (by decide)]) (by rw [e19, zuI_ne (by decide)]) rfl
  refine sp_X9_kindOf (i := 0) hP3 r1 (Nat.zero_le _) (fun I27 e27 => qv ?_)
  have g17 : ∀ k, k ≠ 7 → k ≠ 8 → I27 17 k = I11 17 k := fun k h7 h8 => by rw [e27, zuI_o h8, e19, zuI_o h7, a1 17 (by decide)]
  have f1 : cFr [17, 18, 20, 21] I I27 := by
    rw [e27, e19]; exact cFr_c (cFr_c (cFr_tr f0 (cFr_wk a1 (by simp))) (by simp)) (by simp)
  have hil := hH.1
  unfold il at hil
  have et : I27 t = I t := f1 t (by simp only [List.mem_cons, List.not_mem_nil, or_false]; omega)
  refine kk I27 L15 hP3 ⟨?_, ?_, iH_c hH et, hc, ?_, hl⟩ ⟨c, 0, ?_, Nat.zero_le _, rfl, ?_, ?_, ?_, ?_⟩ ?_ f1 a2
  · unfold pRd; rw [zuP_o (by decide), zuP_v]
  · unfold pRd; rw [zuP_v]
  · rw [g17 5 (by decide) (by decide)]; exact s5
  · exact tkR_c r1 (by rw [e27, zuI_ne (by decide)]) (by rw [e27, zuI_ne (by decide)]) (by rw [e27, zuI_ne (by decide)]) rfl
  · rw [e27, zuI_o (by decide), e19, zuI_v]; rfl
  · rw [e27, zuI_v]; rfl
  · rw [g17 0 (by decide) (by decide)]; exact s0
  · rw [g17 1 (by decide) (by decide)]; exact s1
  · rw [g17 6 (by decide) (by decide)]; exact s6
abbrev gw_X5_readFormula (d : Nat) (Q : zQt) (pc : Nat) (lv : zV) (st : List Value) (I : zI) (L : zL) (P : zP) : Prop := zW zm_X5_readFormula (zRm d 0 0) 0 0 Q pc lv st I L P 205 0 0
abbrev v_X5_readFormula (d : Nat) (Q : zQt) (p1 : Nat) (p2 : Nat) (I : zI) (L : zL) (P : zP) : Prop :=
  (p2 < 205 ∧ (zsh p2).1 = 0) ∧
  ∀ I2 : zI, I2 = zuI I p2 1 0 →
  zMv zm_X5_begin d [.ref 17, .ref p1, .ref p2, .int 30] I2 L P (fun I4 L5 P6 =>
    zMv zm_X5_readPart d [.ref 17, .int 0, .int 0] I4 L5 P6 (fun I9 L10 P11 =>
      (((I9 17 8) = 275 →
        ((¬ (I9 17 0) = 0 →
          Q (some (.int 0)) I9 L10 P11 205
        ) ∧ ((I9 17 0) = 0 →
          Q (some (.int 1)) I9 L10 P11 205
        ))
      ) ∧ (¬ (I9 17 8) = 275 →
        zMv zm_X5_fail d [.ref 17, .int 2] I9 L10 P11 (fun I16 L17 P18 =>
          ((¬ (I16 17 0) = 0 →
            Q (some (.int 0)) I16 L17 P18 205
          ) ∧ ((I16 17 0) = 0 →
            Q (some (.int 1)) I16 L17 P18 205
          ))
        )
      ))
    )
  )
set_option maxRecDepth 20000 in
theorem g_X5_readFormula {d : Nat} {Q : zQt} {p1 : Nat} {p2 : Nat} {I : zI} {L : zL} {P : zP} (hP : zPk P) (hv : v_X5_readFormula d Q p1 p2 I L P) : zM zm_X5_readFormula (d + 1) 0 0 [.ref 17, .ref p1, .ref p2] I L P 205 Q := by
  unfold v_X5_readFormula at hv
  refine zM_of (lv0 := [some (.ref 17), some (.ref p1), some (.ref p2)]) (by decide +kernel) (Nat.le_of_ble_eq_true rfl) rfl ?_
  refine z_aload_n dX5_readFormula_0 rfl ?_
  refine z_iconst (v := 0) dX5_readFormula_1 (by decide) ?_
  obtain ⟨h1, hv⟩ := hv
  refine z_putI dX5_readFormula_2 zf_X5_81 h1.1 h1.2 (Or.inl rfl) (fun _ _ _ _ _ => rfl) rfl rfl (z_nmI (fun I2 e3 => ?_))
  have hv := hv I2 e3
  refine z_aload_n dX5_readFormula_5 rfl ?_
  refine z_aload_n dX5_readFormula_6 rfl ?_
  refine z_aload_n dX5_readFormula_7 rfl ?_
  refine z_bipush (v := 30) dX5_readFormula_8 (by decide) ?_
  refine z_callV (As := [.ref p1, .ref p2, .int 30]) (st := []) dX5_readFormula_10 zl_X5_55 zv_X5_begin (by decide) rfl zn_17 zo_17 rfl rfl (Nat.le_of_ble_eq_true rfl) ⟨Nat.le_refl _, Nat.le_refl _⟩ ⟨Nat.le_refl _, Nat.le_refl _⟩ hv (fun v1 I4 L5 P6 nx1 q7 => ?_)
  obtain ⟨rfl, rfl, hv⟩ := q7
  refine z_aload_n dX5_readFormula_13 rfl ?_
  refine z_iconst (v := 0) dX5_readFormula_14 (by decide) ?_
  refine z_iconst (v := 0) dX5_readFormula_15 (by decide) ?_
  refine z_callV (As := [.int 0, .int 0]) (st := []) dX5_readFormula_16 zl_X5_86 zv_X5_readPart (by decide) rfl zn_17 zo_17 rfl rfl (Nat.le_of_ble_eq_true rfl) ⟨Nat.le_refl _, Nat.le_refl _⟩ ⟨Nat.le_refl _, Nat.le_refl _⟩ hv (fun v1 I9 L10 P11 nx1 q12 => ?_)
  obtain ⟨rfl, rfl, hv⟩ := q12
  refine z_aload_n dX5_readFormula_19 rfl ?_
  refine z_getI dX5_readFormula_20 zf_X5_29 zn_17 zo_17 (fun _ _ _ _ _ => rfl) ?_
  refine z_sipush (v := 275) dX5_readFormula_23 (by decide) ?_
  refine z_icmp_eq (tgt := 34) dX5_readFormula_26 (by decide) (fun q14 => ?_) (fun q14 => ?_)
  · have hv := hv.1 q14
    refine z_aload_n dX5_readFormula_34 rfl ?_
    refine z_getI dX5_readFormula_35 zf_X5_9 zn_17 zo_17 (fun _ _ _ _ _ => rfl) ?_
    refine z_if_ne (tgt := 45) dX5_readFormula_38 (by decide) (fun q15 => ?_) (fun q15 => ?_)
    · have hv := hv.1 q15
      refine z_iconst (v := 0) dX5_readFormula_45 (by decide) ?_
      exact z_ireturn dX5_readFormula_46 rfl (by decide) (Nat.le_refl _) (Nat.le_refl _) hv
    · have hv := hv.2 q15
      refine z_iconst (v := 1) dX5_readFormula_41 (by decide) ?_
      refine z_goto (tgt := 46) dX5_readFormula_42 (by decide) ?_
      exact z_ireturn dX5_readFormula_46 rfl (by decide) (Nat.le_refl _) (Nat.le_refl _) hv
  · have hv := hv.2 q14
    refine z_aload_n dX5_readFormula_29 rfl ?_
    refine z_iconst (v := 2) dX5_readFormula_30 (by decide) ?_
    refine z_callV (As := [.int 2]) (st := []) dX5_readFormula_31 zl_X5_73 zv_X5_fail (by decide) rfl zn_17 zo_17 rfl rfl (Nat.le_of_ble_eq_true rfl) ⟨Nat.le_refl _, Nat.le_refl _⟩ ⟨Nat.le_refl _, Nat.le_refl _⟩ hv (fun v1 I16 L17 P18 nx1 q19 => ?_)
    obtain ⟨rfl, rfl, hv⟩ := q19
    refine z_aload_n dX5_readFormula_34 rfl ?_
    refine z_getI dX5_readFormula_35 zf_X5_9 zn_17 zo_17 (fun _ _ _ _ _ => rfl) ?_
    refine z_if_ne (tgt := 45) dX5_readFormula_38 (by decide) (fun q21 => ?_) (fun q21 => ?_)
    · have hv := hv.1 q21
      refine z_iconst (v := 0) dX5_readFormula_45 (by decide) ?_
      exact z_ireturn dX5_readFormula_46 rfl (by decide) (Nat.le_refl _) (Nat.le_refl _) hv
    · have hv := hv.2 q21
      refine z_iconst (v := 1) dX5_readFormula_41 (by decide) ?_
      refine z_goto (tgt := 46) dX5_readFormula_42 (by decide) ?_
      exact z_ireturn dX5_readFormula_46 rfl (by decide) (Nat.le_refl _) (Nat.le_refl _) hv
theorem sp_X5_readFormula (hP : zPk P) (hT : tpR I T n) (hw : wdR L) (hH : iH t np I) (hd : 69 ≤ d) {K : Int32 → zI → zL → zP → Prop}
    (kF : ∀ q, aRd T n (cnm L t np) = .inl q → ∀ I' L', zPk (pRd P t 3) → cFr [3, 4, 17, 18, 20, 21] I I' → (∀ x, x ≠ 22 → L' x = L x) → I' 17 0 = nI q.1 → I' 17 1 = nI q.2 → K 0 I' L' (pRd P t 3))
    (kO : ∀ e u c, aRd T n (cnm L t np) = rO e u c → u ≤ 30 → ∀ I' L', zPk (pRd P t 3) → cFr [3, 4, 17, 18, 20, 21] I I' → (∀ x, x ≠ 22 → L' x = L x) → I' 17 0 = 0 → I' 17 1 = -1 → I' 3 1 = nI c.length → cT 3 I' 0 c → K 1 I' L' (pRd P t 3)) : zMi zm_X5_readFormula d [.ref 17, .ref t, .ref 3] I L P K := by
  obtain ⟨d, rfl⟩ : ∃ e, d = e + 1 := ⟨d - 1, by omega⟩
  have hil := hH.1
  unfold il at hil
  refine g_X5_readFormula hP ⟨by decide +kernel, fun I2 e2 => ?_⟩
  have f2 : cFr [3, 4, 17, 18, 20, 21] I I2 := by rw [e2]; exact cFr_c (cFr_rf _ _) (by simp)
  refine sp_X5_begin (T := T) (n := n) (np := np) (lim := 30) hP (tpR_c hT (f2 1 (by decide)) (f2 2 (by decide))) hw (iH_c hH (f2 t (by simp only [List.mem_cons, List.not_mem_nil, or_false]; omega))) (Or.inl rfl) (by decide) (by omega) (fun I4 L4 hP4 x4 g4 u4 c4 l4 => ?_)
  have f4 : cFr [3, 4, 17, 18, 20, 21] I I4 := cFr_tr f2 (cFr_wk c4 (by simp))
  have n4 : cnm L4 t np = cnm L t np := by unfold cnm; rw [l4 (t + 1) (by omega)]
  have m4 : I4 3 1 = nI 0 := by rw [c4 3 (by decide), e2, zuI_v]; rfl
  refine sp_X5_readPart (lim := 30) (m := 0) (u := 0) hP4 (by decide) hT.1 (by decide) (by decide) x4 g4 u4 m4 (by omega) ?_
  rw [n4]
  have hr : aRd T n (cnm L t np) = match fRd T n (cnm L t np) 30 0 0 with
    | .inl x => .inl x
    | .inr (e, u, c) => @ite _ (tK T n e = 275) (Classical.propDecidable _) (rO e u c) (rF (mis T n e) (tA T n e)) := rfl
  have bad : ∀ q, aRd T n (cnm L t np) = .inl q → ∀ I9, cFr [3, 4, 17, 18, 20, 21] I I9 → rB q.1 q.2 I9 → (¬ I9 17 0 = 0 → (205 : Nat) = 205 ∧ ∃ r, some (Value.int 0) = some (.int r) ∧ K r I9 L4 (pRd P t 3)) ∧ (I9 17 0 = 0 → (205 : Nat) = 205 ∧ ∃ r, some (Value.int 1) = some (.int r) ∧ K r I9 L4 (pRd P t 3)) := by
    intro q hq I9 a1 a2
    exact ⟨fun _ => qi (kF q hq I9 L4 hP4 a1 l4 a2.2.1 a2.2.2.1), fun z => absurd z (rB_n a2)⟩
  cases hres : fRd T n (cnm L t np) 30 0 0 with
  | inl q =>
    rw [hres] at hr
    intro I9 a1 a2 a3
    have f9 : cFr [3, 4, 17, 18, 20, 21] I I9 := cFr_tr f4 (cFr_wk a1 (by simp))
    exact ⟨fun z => absurd z (rB_w (w := 275) a2 (by decide)), fun _ => sp_X5_failB hP4 a2 (by omega) (bad q hr I9 f9 a2)⟩
  | inr x =>
    obtain ⟨e, u, c⟩ := x
    rw [hres] at hr
    intro I9 a1 a2 a3 a4 a5 a6 a7 a8
    have f9 : cFr [3, 4, 17, 18, 20, 21] I I9 := cFr_tr f4 (cFr_wk a1 (by simp))
    have h8 := rG_w a3 (w := 275) (by decide)
    have hr : aRd T n (cnm L t np) = @ite _ (tK T n e = 275) (Classical.propDecidable _) (rO e u c) (rF (mis T n e) (tA T n e)) := hr
    refine ⟨fun z => ⟨fun y => absurd (rG_0 a3) y, fun _ => ?_⟩, fun z => ?_⟩
    · rw [if_pos (h8.mp z)] at hr
      rw [Nat.zero_add] at a6
      refine qi (kO e u c hr a5 I9 L4 hP4 f9 l4 (rG_0 a3) ?_ a6 a8)
      obtain ⟨_, _, _, _, _, _, _, _, y⟩ := a3
      exact y
    · rw [if_neg (fun y => z (h8.mpr y))] at hr
      exact sp_X5_fail (k := 2) hP4 a3 (by decide) (by omega) (fun I16 b1 b2 => bad _ hr I16 (cFr_tr f9 (cFr_wk b1.1 (by simp))) b2)
end RA
