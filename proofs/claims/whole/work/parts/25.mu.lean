/-! ===== the model: when, fewest ===== -/
abbrev rC : List Nat := [180, 183, 184, 185, 186, 187, 188, 193, 194, 195, 196, 198, 199, 200, 201, 202, 203, 204]
abbrev gC : List Nat := [180, 183, 184, 185, 186, 187, 188, 193, 194, 195, 196, 198]
abbrev gL : List Nat := [38, 39, 40, 46, 48, 61]
/-- all that can be seen later is as it was -/
def rSm (I I' : zI) : Prop := zFr rC [46, 48, 61] I I' ∧ (∀ w, w < 256 → I' 180 w = I 180 w) ∧ MP I' ∧ bOt I I' 3
section SAME
variable {I0 I : zI}
theorem aGs_fr {cs sl : List Nat} (h : zFr cs sl I0 I) (h1 : 28 ∉ sl) (h2 : 163 ∉ cs) (h3 : 168 ∉ cs) (h4 : 38 ∉ sl) (h5 : 182 ∉ cs) (h6 : 181 ∉ cs) (h9 : 173 ∉ cs) (h10 : 171 ∉ cs) (po : Nat → Prop) (gn w : Nat) : aGs I po gn w = aGs I0 po gn w := by
  unfold aGs
  rw [vN_fr h h1 h2, vNp_fr h h1 h2, vLike_fr' h h1 h2 h3 h4 h5 h6, vSty_fr h h1 h9, vOwn_fr h h1 h10]
theorem aRw_fr {cs sl : List Nat} (h : zFr cs sl I0 I) (h1 : 28 ∉ sl) (h2 : 163 ∉ cs) (h3 : 168 ∉ cs) (h4 : 38 ∉ sl) (h5 : 182 ∉ cs) (h6 : 181 ∉ cs) (po : Nat → Prop) (gn : Nat) (c : List (Int32 × Int32)) : aRw I po gn c = aRw I0 po gn c := by
  unfold aRw
  rw [vN_fr h h1 h2, vNp_fr h h1 h2, vLike_fr' h h1 h2 h3 h4 h5 h6]
theorem aWh_c (hg : ∀ po gn w, aGs I po gn w = aGs I0 po gn w) (hN : vN I = vN I0) (hT : vTw I = vTw I0) (p : Nat) : ∀ f n po gn, aWh I p f n po gn = aWh I0 p f n po gn
  | 0, _, _, _ => rfl
  | f + 1, n, po, gn => by
    have ih := aWh_c hg hN hT p f (n + 1) (aPo I po gn) (aGn I po gn)
    have e1 : aPo I po gn = aPo I0 po gn := by funext w; unfold aPo; rw [hg, hg, hT]
    have e2 : aGn I po gn = aGn I0 po gn := by unfold aGn; rw [hg, hT]
    have e3 : cP (fun w => po w ∧ ¬ aGs I po gn w = aGs I po gn (vTw I)) (vN I) = cP (fun w => po w ∧ ¬ aGs I0 po gn w = aGs I0 po gn (vTw I0)) (vN I0) := by
      rw [hN]; exact cP_c (fun w _ => by rw [hg, hg, hT])
    by_cases h1 : (aGs I po gn (vTw I)).testBit p = true
    · rw [aWh_1 h1, aWh_1 (by rw [← hg, ← hT]; exact h1)]
    · by_cases h2 : aGs I po gn (vTw I) = 0 ∧ cP (fun w => po w ∧ ¬ aGs I po gn w = aGs I po gn (vTw I)) (vN I) = 0
      · rw [aWh_2 h1 h2, aWh_2 (by rw [← hg, ← hT]; exact h1) ⟨by rw [← hg, ← hT]; exact h2.1, by rw [← e3]; exact h2.2⟩]
      · rw [aWh_3 h1 h2, aWh_3 (by rw [← hg, ← hT]; exact h1) (fun z => h2 ⟨by rw [hg, hT]; exact z.1, by rw [e3]; exact z.2⟩), ih, e1, e2]
end SAME
/-- behind keep(3): a trial may begin -/
theorem t_begin {I I1 : zI} (hE : ME I) (hT : MT I) (hC : MC I) (hG : MG I) (hZ : MZ I) (hM : MP I) (hpt : vPoss I (vTw I)) (hf : zFr [199, 200, 201, 202, 203, 204] [] I I1) : tB I1 ∧ tSt I1 I1 (vPoss I) (vGn I) := by
  have eT := vTw_fr hf (by decide) (by decide)
  refine ⟨⟨ME_fr hf (by decide) (by decide) (by decide) (by decide) (by decide) hE, MT_fr hf (by decide) (by decide) (by decide) hT, MC_fr hf (by decide) (by decide) (by decide) (by decide) (by decide) (by decide) (by decide) hC⟩, zFr_rf _ _ _, fun w hw => ?_, fun w hw => ?_, ⟨?_, hG.1⟩, MP_fr hf (by decide) (by decide) (by decide) (by decide) (by decide) (by decide) (by decide) (by decide) (by decide) hM, by rw [eT]; exact hpt⟩
  · rw [hf.1 180 (by decide) (by decide)]; exact hZ.1 w hw
  · rw [vPoss_fr hf (by decide)]
  · rw [hf.2 40 (by decide)]; exact hG.2
/-- behind bring(3): all is as it was -/
theorem t_endB {d : Nat} {I I1 I2 : zI} {L : zL} {P : zP} (hP : zPk P) (hZ : MZ I) (hf : zFr rC [46, 48, 61] I I1) (hh : bHd I1 3 I) (ho : bOt I I1 3) (c : zFr gC gL I1 I2) {K : zI → zL → zP → Prop} (k : ∀ I', rSm I I' → bHd I' 3 I → zFr [180, 181, 182] [38, 39, 40, 46] I2 I' → K I' L P) : zMv zm_X12_bring d [.ref 160, .int 3] I2 L P K := by
  obtain ⟨b1, b2, b3, b4, b5, b6⟩ := hh
  refine sp_X12_bring (b := 3) hP (by decide) ⟨fun w hw => ?_, fun j hj => ?_⟩ (fun I3 a1 a2 a3 a4 => k I3 ⟨⟨fun a ha hb => ?_, fun s hs => ?_⟩, fun w hw => ?_, Or.inl a3, fun b hb => ?_⟩ ⟨?_, ?_, ?_, fun j hj => ?_, fun j hj => ?_, fun j hj => ?_⟩ a1)
  · rw [c.1 203 (by decide) (by decide), b4 w hw]; exact hZ.1 w hw
  · rw [c.1 204 (by decide) (by decide), b6 j hj]; exact hZ.2 j hj
  · by_cases h181 : a = 181
    · subst h181
      funext j
      by_cases hj : j < 2048
      · rw [← a2.2.2.2.2.2 j hj, c.1 204 (by decide) (by decide), b6 j hj]
      · rw [a4.1 j hj, c.1 181 (by decide) (by decide), hf.1 181 (by decide) (by decide)]
    · by_cases h182 : a = 182
      · subst h182
        funext j
        by_cases hj : j < 8
        · rw [← a2.2.2.2.2.1 j hj, c.1 202 (by decide) (by decide), b5 j hj]
        · rw [a4.2 j hj, c.1 182 (by decide) (by decide), hf.1 182 (by decide) (by decide)]
      · have h180 : a ≠ 180 := fun e => ha (by rw [e]; decide)
        rw [a1.1 a (by simp; omega) hb, c.1 a (fun q => ha ((by decide : ∀ x ∈ gC, x ∈ rC) a q)) hb, hf.1 a ha hb]
  · by_cases h38 : s = 38
    · subst h38; rw [← a2.2.2.1, c.1 201 (by decide) (by decide), b3]
    · by_cases h39 : s = 39
      · subst h39; rw [← a2.1, c.1 199 (by decide) (by decide), b1]
      · by_cases h40 : s = 40
        · subst h40; rw [← a2.2.1, c.1 200 (by decide) (by decide), b2]
        · have h46 : s ≠ 46 := fun e => hs (by rw [e]; decide)
          have h48 : s ≠ 48 := fun e => hs (by rw [e]; decide)
          have h61 : s ≠ 61 := fun e => hs (by rw [e]; decide)
          rw [a1.2 s (by simp; omega), c.2 s (by simp; omega), hf.2 s hs]
  · rw [← a2.2.2.2.1 w hw, c.1 203 (by decide) (by decide), b4 w hw]
  · have := ho b hb
    refine ⟨?_, ?_, ?_, fun j hj => ?_, fun j hj => ?_, fun j hj => ?_⟩
    · rw [a1.1 199 (by decide) (by decide), c.1 199 (by decide) (by decide)]; exact this.1
    · rw [a1.1 200 (by decide) (by decide), c.1 200 (by decide) (by decide)]; exact this.2.1
    · rw [a1.1 201 (by decide) (by decide), c.1 201 (by decide) (by decide)]; exact this.2.2.1
    · rw [a1.1 203 (by decide) (by decide), c.1 203 (by decide) (by decide)]; exact this.2.2.2.1 j hj
    · rw [a1.1 202 (by decide) (by decide), c.1 202 (by decide) (by decide)]; exact this.2.2.2.2.1 j hj
    · rw [a1.1 204 (by decide) (by decide), c.1 204 (by decide) (by decide)]; exact this.2.2.2.2.2 j hj
  · rw [a1.1 199 (by decide) (by decide), c.1 199 (by decide) (by decide), b1]
  · rw [a1.1 200 (by decide) (by decide), c.1 200 (by decide) (by decide), b2]
  · rw [a1.1 201 (by decide) (by decide), c.1 201 (by decide) (by decide), b3]
  · rw [a1.1 203 (by decide) (by decide), c.1 203 (by decide) (by decide), b4 j hj]
  · rw [a1.1 202 (by decide) (by decide), c.1 202 (by decide) (by decide), b5 j hj]
  · rw [a1.1 204 (by decide) (by decide), c.1 204 (by decide) (by decide), b6 j hj]
theorem t_end {d : Nat} {I I1 I2 : zI} {L : zL} {P : zP} {po : Nat → Prop} {gn : Nat} (hP : zPk P) (hZ : MZ I) (hf : zFr [199, 200, 201, 202, 203, 204] [] I I1) (hh : bHd I1 3 I) (ho : bOt I I1 3) (h : tSt I1 I2 po gn) {K : zI → zL → zP → Prop} (k : ∀ I', rSm I I' → K I' L P) : zMv zm_X12_bring d [.ref 160, .int 3] I2 L P K :=
  t_endB hP hZ (zFr_wk hf (by decide) (by decide)) hh ho (zFr_wk h.1 (by decide) (by decide)) (fun I' h1 _ _ => k I' h1)
/-- all that a scene of the model needs -/
def MSc (I : zI) : Prop := ME I ∧ MT I ∧ MC I ∧ MG I ∧ MZ I ∧ MP I ∧ vPoss I (vTw I)
theorem sp_X12_when {d : Nat} {I : zI} {L : zL} {P : zP} {p : Int32} (hP : zPk P) (hS : MSc I) (hd : 6 ≤ d) {K : Int32 → zI → zL → zP → Prop}
    (k0 : ¬ (∃ v, v < vNp I ∧ p = nI v ∧ ¬ (vGn I).testBit v = true) → K (-1) I L P)
    (k : ∀ v, v < vNp I → p = nI v → ¬ (vGn I).testBit v = true → ∀ I', rSm I I' → K (aWh I v 300 0 (vPoss I) (vGn I)) I' L P) : zMi zm_X12_when d [.ref 160, .int p] I L P K := by
  obtain ⟨d, rfl⟩ : ∃ e, d = e + 1 := ⟨d - 1, by omega⟩
  obtain ⟨hE, hT, hC, hG, hZ, hM, hpt⟩ := hS
  have hnp := hE.1.2.1
  have hg := hG.1
  refine g_X12_when hP (by omega) ⟨hE.1, fun q => qi (k0 ?_), fun q => ?_⟩
  · rw [bP_0] at q
    rintro ⟨v, h1, rfl, -⟩
    exact q (nx_in h1 (by omega))
  · rw [bP_n] at q
    obtain ⟨v, hv, rfl⟩ := vp_nI q (by omega)
    refine ⟨fun q2 => ?_, fun q2 => qi (k0 ?_)⟩
    · rw [hG.2, nx_bit1 (by omega) (by omega)] at q2
      refine sp_X12_keep (b := 3) hP (by decide) hZ (fun I1 a1 a2 a3 => ?_)
      obtain ⟨tb, ts⟩ := t_begin hE hT hC hG hZ hM hpt a1
      have eP := vNp_fr a1 (by decide) (by decide)
      refine lp_X12_when hP tb (by omega) (by omega) (res := aWh I v 300 0 (vPoss I) (vGn I)) (fun I2 po gn h2 => t_end hP hZ a1 a2 a3 h2 (fun I' hr => qi (k v hv rfl q2 I' hr))) 300 0 I1 _ _ (by omega) (by have := aMu_le tb.1.1 (vPoss I) (vGn I); omega) ts ?_
      exact aWh_c (aGs_fr a1 (by decide) (by decide) (by decide) (by decide) (by decide) (by decide) (by decide) (by decide)) (vN_fr a1 (by decide) (by decide)) (vTw_fr a1 (by decide) (by decide)) v 300 0 _ _
    · rw [hG.2, nx_bit1 (by omega) (by omega)] at q2
      rintro ⟨v', h1, h2, h3⟩
      have : v = v' := (nI_eq (by omega) (by omega)).mp h2
      subst this; exact h3 q2
/-! sayings said one behind the other, then nights -/
noncomputable def aSy (I : zI) (said gn : Nat) : Nat → Nat → (Nat → Prop) → Option (Nat → Prop)
  | 0, _, po => some po
  | m + 1, i, po => if said.testBit i = true then (if aRw I po gn (vSy I i) (vTw I) = 0 then none else aSy I said gn m (i + 1) (fun w => po w ∧ ¬ aRw I po gn (vSy I i) w = 0)) else aSy I said gn m (i + 1) po
noncomputable def aNt (I : zI) : Nat → Nat → (Nat → Prop) → Nat → Nat
  | 0, acc, _, _ => acc
  | n + 1, acc, po, gn => aNt I n (acc ||| aGs I po gn (vTw I)) (aPo I po gn) (aGn I po gn)
noncomputable def aGb (I : zI) (said n : Nat) (po : Nat → Prop) (gn : Nat) : Int32 := match aSy I said gn (vNs I) 0 po with
  | none => -1
  | some po' => nI (aNt I n 0 po' gn)
abbrev gw_X12_goBy (d : Nat) (Q : zQt) (pc : Nat) (lv : zV) (st : List Value) (I : zI) (L : zL) (P : zP) : Prop := zW zm_X12_goBy (zRm d 0 0) 0 0 Q pc lv st I L P 205 0 0
abbrev v_X12_goBy_45 (d : Nat) (Q : zQt) (p2 : Int32) (x3 : Int32) (x4 : Int32) (I : zI) (L : zL) (P : zP) : Prop :=
  ((p2 ≤ x4 →
    Q (some (.int x3)) I L P 205
  ) ∧ (¬ p2 ≤ x4 →
    zMi zm_X12_oneNight d [.ref 160] I L P (fun r15 I11 L12 P13 =>
      gw_X12_goBy (d + 1) Q 45 [some (.ref 160), none, some (.int p2), some (.int (x3 ||| r15 : Int32)), some (.int (x4 + 1))] [] I11 L12 P13
    )
  ))
set_option maxRecDepth 20000 in
theorem g_X12_goBy_45 {d : Nat} {Q : zQt} {p2 : Int32} {x3 : Int32} {x4 : Int32} {I : zI} {L : zL} {P : zP} (hP : zPk P) (hv : v_X12_goBy_45 d Q p2 x3 x4 I L P) : gw_X12_goBy (d + 1) Q 45 [some (.ref 160), none, some (.int p2), some (.int x3), some (.int x4)] [] I L P := by
  unfold v_X12_goBy_45 at hv
  refine z_iload dX12_goBy_45 rfl ?_
  refine z_iload_n dX12_goBy_47 rfl ?_
  refine z_icmp_ge (tgt := 64) dX12_goBy_48 (by decide) (fun q10 => ?_) (fun q10 => ?_)
  · have hv := hv.1 q10
    refine z_iload_n dX12_goBy_64 rfl ?_
    exact z_ireturn dX12_goBy_65 rfl rfl (Nat.le_refl _) (Nat.le_refl _) hv
  · have hv := hv.2 q10
    refine z_iload_n dX12_goBy_51 rfl ?_
    refine z_aload_n dX12_goBy_52 rfl ?_
    refine z_callV (As := []) (st := [.int x3]) dX12_goBy_53 zl_X12_425 zv_X12_oneNight (by decide) rfl zn_160 zo_160 rfl rfl (Nat.le_of_ble_eq_true rfl) ⟨Nat.le_refl _, Nat.le_refl _⟩ ⟨Nat.le_refl _, Nat.le_refl _⟩ hv (fun v1 I11 L12 P13 nx1 q14 => ?_)
    obtain ⟨rfl, r15, rfl, hv⟩ := q14
    refine z_ior dX12_goBy_56 ?_
    refine z_istore_n (lv2 := [some (.ref 160), none, some (.int p2), some (.int (x3 ||| r15 : Int32)), some (.int x4)]) dX12_goBy_57 (by decide) rfl rfl ?_
    refine z_iinc (v2 := x4 + 1) (lv2 := [some (.ref 160), none, some (.int p2), some (.int (x3 ||| r15 : Int32)), some (.int (x4 + 1))]) dX12_goBy_58 rfl (by rfl) (by decide) rfl rfl ?_
    refine z_goto (tgt := 45) dX12_goBy_61 (by decide) ?_
    exact hv
abbrev v_X12_goBy_2 (d : Nat) (Q : zQt) (p1 : Int32) (p2 : Int32) (x3 : Int32) (I : zI) (L : zL) (P : zP) : Prop :=
  vp_in (I 160 28) 2 ∧
  (((I 165 (I 160 28).toNatClampNeg) ≤ x3 →
    gw_X12_goBy (d + 1) Q 45 [some (.ref 160), none, some (.int p2), some (.int 0), some (.int 0)] [] I L P
  ) ∧ (¬ (I 165 (I 160 28).toNatClampNeg) ≤ x3 →
    ((¬ ((p1 >>> (x3 &&& 31) : Int32) &&& 1 : Int32) = 1 →
      gw_X12_goBy (d + 1) Q 2 [some (.ref 160), some (.int p1), some (.int p2), some (.int (x3 + 1)), none] [] I L P
    ) ∧ (((p1 >>> (x3 &&& 31) : Int32) &&& 1 : Int32) = 1 →
      zMi zm_X12_saying d [.ref 160, .int x3] I L P (fun r8 I4 L5 P6 =>
        ((0 ≤ r8 →
          gw_X12_goBy (d + 1) Q 2 [some (.ref 160), some (.int p1), some (.int p2), some (.int (x3 + 1)), none] [] I4 L5 P6
        ) ∧ (¬ 0 ≤ r8 →
          Q (some (.int (-1))) I4 L5 P6 205
        ))
      )
    ))
  ))
set_option maxRecDepth 20000 in
theorem g_X12_goBy_2 {d : Nat} {Q : zQt} {p1 : Int32} {p2 : Int32} {x3 : Int32} {I : zI} {L : zL} {P : zP} (hP : zPk P) (hv : v_X12_goBy_2 d Q p1 p2 x3 I L P) : gw_X12_goBy (d + 1) Q 2 [some (.ref 160), some (.int p1), some (.int p2), some (.int x3), none] [] I L P := by
  unfold v_X12_goBy_2 at hv
  refine z_iload_n dX12_goBy_2 rfl ?_
  refine z_aload_n dX12_goBy_3 rfl ?_
  refine z_getP dX12_goBy_4 zf_X12_27 zn_160 zo_160 (fun _ _ _ _ _ => rfl) (hP 160 13 165 zp_160_13) ?_
  refine z_aload_n dX12_goBy_7 rfl ?_
  refine z_getI dX12_goBy_8 zf_X12_261 zn_160 zo_160 (fun _ _ _ _ _ => rfl) ?_
  obtain ⟨h1, hv⟩ := hv
  refine z_iaload dX12_goBy_11 zn_165 zh_165 h1 ?_
  refine z_icmp_ge (tgt := 40) dX12_goBy_12 (by decide) (fun q2 => ?_) (fun q2 => ?_)
  · have hv := hv.1 q2
    refine z_iconst (v := 0) dX12_goBy_40 (by decide) ?_
    refine z_istore_n (lv2 := [some (.ref 160), some (.int p1), some (.int p2), some (.int 0), none]) dX12_goBy_41 (by decide) rfl rfl ?_
    refine z_iconst (v := 0) dX12_goBy_42 (by decide) ?_
    refine z_istore (lv2 := [some (.ref 160), some (.int p1), some (.int p2), some (.int 0), some (.int 0)]) dX12_goBy_43 (by decide) rfl rfl ?_
    exact z_sub (by exact ⟨rfl, ⟨rfl, ⟨rfl, ⟨rfl, trivial⟩⟩⟩⟩) hv
  · have hv := hv.2 q2
    refine z_iload_n dX12_goBy_15 rfl ?_
    refine z_iload_n dX12_goBy_16 rfl ?_
    refine z_ishr dX12_goBy_17 ?_
    refine z_iconst (v := 1) dX12_goBy_18 (by decide) ?_
    refine z_iand dX12_goBy_19 ?_
    refine z_iconst (v := 1) dX12_goBy_20 (by decide) ?_
    refine z_icmp_ne (tgt := 34) dX12_goBy_21 (by decide) (fun q3 => ?_) (fun q3 => ?_)
    · have hv := hv.1 q3
      refine z_iinc (v2 := x3 + 1) (lv2 := [some (.ref 160), some (.int p1), some (.int p2), some (.int (x3 + 1)), none]) dX12_goBy_34 rfl (by rfl) (by decide) rfl rfl ?_
      refine z_goto (tgt := 2) dX12_goBy_37 (by decide) ?_
      exact hv
    · have hv := hv.2 q3
      refine z_aload_n dX12_goBy_24 rfl ?_
      refine z_iload_n dX12_goBy_25 rfl ?_
      refine z_callV (As := [.int x3]) (st := []) dX12_goBy_26 zl_X12_438 zv_X12_saying (by decide) rfl zn_160 zo_160 rfl rfl (Nat.le_of_ble_eq_true rfl) ⟨Nat.le_refl _, Nat.le_refl _⟩ ⟨Nat.le_refl _, Nat.le_refl _⟩ hv (fun v1 I4 L5 P6 nx1 q7 => ?_)
      obtain ⟨rfl, r8, rfl, hv⟩ := q7
      refine z_if_ge (tgt := 34) dX12_goBy_29 (by decide) (fun q9 => ?_) (fun q9 => ?_)
      · have hv := hv.1 q9
        refine z_iinc (v2 := x3 + 1) (lv2 := [some (.ref 160), some (.int p1), some (.int p2), some (.int (x3 + 1)), none]) dX12_goBy_34 rfl (by rfl) (by decide) rfl rfl ?_
        refine z_goto (tgt := 2) dX12_goBy_37 (by decide) ?_
        exact hv
      · have hv := hv.2 q9
        refine z_iconst (v := (-1)) dX12_goBy_32 (by decide) ?_
        exact z_ireturn dX12_goBy_33 rfl rfl (Nat.le_refl _) (Nat.le_refl _) hv
abbrev v_X12_goBy (d : Nat) (Q : zQt) (p1 : Int32) (p2 : Int32) (I : zI) (L : zL) (P : zP) : Prop :=
  gw_X12_goBy (d + 1) Q 2 [some (.ref 160), some (.int p1), some (.int p2), some (.int 0), none] [] I L P
set_option maxRecDepth 20000 in
theorem g_X12_goBy {d : Nat} {Q : zQt} {p1 : Int32} {p2 : Int32} {I : zI} {L : zL} {P : zP} (hP : zPk P) (hv : v_X12_goBy d Q p1 p2 I L P) : zM zm_X12_goBy (d + 1) 0 0 [.ref 160, .int p1, .int p2] I L P 205 Q := by
  unfold v_X12_goBy at hv
  refine zM_of (lv0 := [some (.ref 160), some (.int p1), some (.int p2), none, none]) (by decide +kernel) (Nat.le_of_ble_eq_true rfl) rfl ?_
  refine z_iconst (v := 0) dX12_goBy_0 (by decide) ?_
  refine z_istore_n (lv2 := [some (.ref 160), some (.int p1), some (.int p2), some (.int 0), none]) dX12_goBy_1 (by decide) rfl rfl ?_
  exact hv
theorem lp_X12_goBy_45 {d : Nat} {Q : zQt} {I0 : zI} {L : zL} {P : zP} {n : Nat} (hP : zPk P) (hb : tB I0) (hn : n < 2 ^ 31) (hd : 5 ≤ d) {res : Int32} (k : ∀ I po gn, tSt I0 I po gn → Q (some (.int res)) I L P 205) :
    ∀ m i acc I po gn, i + m = n → tSt I0 I po gn → nI (aNt I0 m acc po gn) = res → gw_X12_goBy (d + 1) Q 45 [some (.ref 160), none, some (.int (nI n)), some (.int (nI acc)), some (.int (nI i))] [] I L P := by
  intro m
  induction m with
  | zero =>
    intro i acc I po gn hi ht hr
    have : i = n := by omega
    subst this
    refine g_X12_goBy_45 hP ⟨fun _ => ?_, fun q => absurd (nI_le (Nat.le_refl _) hn) q⟩
    have := k I po gn ht
    rw [← hr] at this
    exact this
  | succ m ih =>
    intro i acc I po gn hi ht hr
    refine g_X12_goBy_45 hP ⟨fun q => absurd q (nI_ge (by omega) hn), fun _ => t_night hP hb ht hd (fun I1 h1 _ _ => ?_)⟩
    rw [nx_or, nI_1]
    exact ih (i + 1) _ I1 _ _ (by omega) h1 hr
theorem lp_X12_goBy_2 {d : Nat} {Q : zQt} {I0 : zI} {L : zL} {P : zP} {n said : Nat} (hP : zPk P) (hb : tB I0) (hn : n < 2 ^ 31) (hs : said < 2 ^ 31) (hd : 8 ≤ d) {res : Int32} (k : ∀ I po gn, tSt I0 I po gn → Q (some (.int res)) I L P 205) :
    ∀ m i I po gn, i + m = vNs I0 → tSt I0 I po gn → (match aSy I0 said gn m i po with | none => -1 | some po' => nI (aNt I0 n 0 po' gn)) = res →
      gw_X12_goBy (d + 1) Q 2 [some (.ref 160), some (.int (nI said)), some (.int (nI n)), some (.int (nI i)), none] [] I L P := by
  have hns := hb.2.2.1
  intro m
  induction m with
  | zero =>
    intro i I po gn hi ht hr
    have hE := t_ME hb ht
    have e165 : I 165 (I 160 28).toNatClampNeg = nI (vNs I0) := by
      show I 165 (vB I) = _
      rw [vB_fr ht.1 (by decide), ht.1.1 165 (by decide) (by decide), hb.2.2.2.1]
    refine g_X12_goBy_2 hP ⟨by rw [hE.1.1.2]; exact nx_in hE.1.1.1 (by decide), fun _ => ?_, fun q => absurd (by rw [e165]; exact nI_le (by omega) (by omega)) q⟩
    exact lp_X12_goBy_45 hP hb hn (by omega) k n 0 0 I po gn (by omega) ht hr
  | succ m ih =>
    intro i I po gn hi ht hr
    have hE := t_ME hb ht
    have e165 : I 165 (I 160 28).toNatClampNeg = nI (vNs I0) := by
      show I 165 (vB I) = _
      rw [vB_fr ht.1 (by decide), ht.1.1 165 (by decide) (by decide), hb.2.2.2.1]
    refine g_X12_goBy_2 hP ⟨by rw [hE.1.1.2]; exact nx_in hE.1.1.1 (by decide), fun q => absurd q (by rw [e165]; exact nI_ge (by omega) (by omega)), fun _ => ⟨fun q => ?_, fun q => ?_⟩⟩
    · rw [nx_bit1 hs (by omega)] at q
      rw [nI_1]
      refine ih (i + 1) I po gn (by omega) ht ?_
      rw [← hr]
      show _ = (match (if said.testBit i = true then _ else aSy I0 said gn m (i + 1) po) with | none => -1 | some po' => nI (aNt I0 n 0 po' gn))
      rw [if_neg q]
    · rw [nx_bit1 hs (by omega)] at q
      refine t_saying hP hb ht (by omega) hd (fun q2 I1 h1 _ => ⟨fun q3 => absurd q3 (by decide), fun _ => ?_⟩) (fun q2 I1 h1 _ _ => ⟨fun _ => ?_, fun q3 => absurd (nI_pos' ?_) q3⟩)
      · have := k I1 po gn h1
        rw [← hr] at this
        have e : aSy I0 said gn (m + 1) i po = none := by
          show (if said.testBit i = true then (if aRw I0 po gn (vSy I0 i) (vTw I0) = 0 then none else _) else _) = none
          rw [if_pos q, if_pos q2]
        rw [e] at this
        exact this
      · rw [nI_1]
        refine ih (i + 1) I1 _ gn (by omega) h1 ?_
        rw [← hr]
        show _ = (match (if said.testBit i = true then (if aRw I0 po gn (vSy I0 i) (vTw I0) = 0 then none else aSy I0 said gn m (i + 1) (fun w => po w ∧ ¬ aRw I0 po gn (vSy I0 i) w = 0)) else _) with | none => -1 | some po' => nI (aNt I0 n 0 po' gn))
        rw [if_pos q, if_neg q2]
      · have := cP_le (fun w => po w ∧ aRw I0 po gn (vSy I0 i) w = 0) (vN I0)
        have := vN_le hb.1.1
        omega
theorem t_goBy {d : Nat} {I0 I : zI} {L : zL} {P : zP} {n said gn : Nat} {po : Nat → Prop} (hP : zPk P) (hb : tB I0) (h : tSt I0 I po gn) (hn : n < 2 ^ 31) (hs : said < 2 ^ 31) (hd : 9 ≤ d) {K : Int32 → zI → zL → zP → Prop} (k : ∀ I' po' gn', tSt I0 I' po' gn' → K (aGb I0 said n po gn) I' L P) : zMi zm_X12_goBy d [.ref 160, .int (nI said), .int (nI n)] I L P K := by
  obtain ⟨d, rfl⟩ : ∃ e, d = e + 1 := ⟨d - 1, by omega⟩
  exact g_X12_goBy hP (lp_X12_goBy_2 hP hb hn hs (by omega) (fun I' po' gn' h' => qi (k I' po' gn' h')) (vNs I0) 0 I po gn (by omega) h rfl)
/-- r is the best of those below m: the fewest bits, of like ones the least -/
def fBs (G : Nat → Prop) (m : Nat) (r : Int32) : Prop := (r = -1 ∧ ∀ s, s < m → ¬ G s) ∨ ∃ b, b < m ∧ r = nI b ∧ G b ∧ ∀ s, s < m → G s → popc b 31 < popc s 31 ∨ (popc b 31 = popc s 31 ∧ b ≤ s)
theorem fBs_skip {G : Nat → Prop} {i b : Nat} (hb : b < i) (hG : G b) (h : ∀ s, s < i → G s → popc b 31 < popc s 31 ∨ (popc b 31 = popc s 31 ∧ b ≤ s)) (hp : popc b 31 ≤ popc i 31) : fBs G (i + 1) (nI b) := by
  refine Or.inr ⟨b, by omega, rfl, hG, fun s hs gs => ?_⟩
  rcases Nat.lt_succ_iff_lt_or_eq.mp hs with q | q
  · exact h s q gs
  · subst q; omega
theorem fBs_no {G : Nat → Prop} {i : Nat} {r : Int32} (h : fBs G i r) (hn : ¬ G i) : fBs G (i + 1) r := by
  rcases h with ⟨h1, h2⟩ | ⟨b, h1, h2, h3, h4⟩
  · refine Or.inl ⟨h1, fun s hs => ?_⟩
    rcases Nat.lt_succ_iff_lt_or_eq.mp hs with q | q
    · exact h2 s q
    · subst q; exact hn
  · refine Or.inr ⟨b, by omega, h2, h3, fun s hs gs => ?_⟩
    rcases Nat.lt_succ_iff_lt_or_eq.mp hs with q | q
    · exact h4 s q gs
    · subst q; exact absurd gs hn
theorem fBs_new {G : Nat → Prop} {i : Nat} {r : Int32} (h : fBs G i r) (hG : G i) (hb : ∀ b, r = nI b → b < i → G b → popc i 31 < popc b 31) : fBs G (i + 1) (nI i) := by
  refine Or.inr ⟨i, by omega, rfl, hG, fun s hs gs => ?_⟩
  rcases Nat.lt_succ_iff_lt_or_eq.mp hs with q | q
  · rcases h with ⟨h1, h2⟩ | ⟨b, h1, h2, h3, h4⟩
    · exact absurd gs (h2 s q)
    · have := hb b h2 h1 h3
      have := h4 s q gs
      omega
  · subst q; exact Or.inr ⟨rfl, Nat.le_refl _⟩
theorem fBs_one {G : Nat → Prop} {m : Nat} {r r' : Int32} (h : fBs G m r) (h' : fBs G m r') : r = r' := by
  rcases h with ⟨h1, h2⟩ | ⟨b, h1, h2, h3, h4⟩ <;> rcases h' with ⟨k1, k2⟩ | ⟨c, k1, k2, k3, k4⟩
  · rw [h1, k1]
  · exact absurd k3 (h2 c k1)
  · exact absurd h3 (k2 b h1)
  · have a1 := h4 c k1 k3
    have a2 := k4 b h1 h3
    have : b = c := by omega
    rw [h2, k2, this]
