/-! ===== the model: island, its loop ===== -/
abbrev gw_X12_island (d : Nat) (Q : zQt) (pc : Nat) (lv : zV) (st : List Value) (I : zI) (L : zL) (P : zP) : Prop := zW zm_X12_island (zRm d 0 0) 0 0 Q pc lv st I L P 205 0 0
abbrev v_X12_island_67 (d : Nat) (Q : zQt) (x1 : Int32) (I : zI) (L : zL) (P : zP) : Prop :=
  ((4 ≤ x1 →
    zMv zm_X12_begin d [.ref 160] I L P (fun I38 L39 P40 =>
      zPk P40 ∧
      vp_in (I38 160 28) 2 ∧
      Q (some (.int (I38 163 (I38 160 28).toNatClampNeg))) I38 L39 P40 205
    )
  ) ∧ (¬ 4 ≤ x1 →
    vp_in x1 4 ∧
    ∀ I47 : zI, I47 = zuI I 199 x1.toNatClampNeg (-1) →
    gw_X12_island (d + 1) Q 67 [some (.ref 160), some (.int (x1 + 1))] [] I47 L P
  ))
set_option maxRecDepth 20000 in
theorem g_X12_island_67 {d : Nat} {Q : zQt} {x1 : Int32} {I : zI} {L : zL} {P : zP} (hP : zPk P) (hv : v_X12_island_67 d Q x1 I L P) : gw_X12_island (d + 1) Q 67 [some (.ref 160), some (.int x1)] [] I L P := by
  unfold v_X12_island_67 at hv
  refine z_iload_n dX12_island_67 rfl ?_
  refine z_iconst (v := 4) dX12_island_68 (by decide) ?_
  refine z_icmp_ge (tgt := 85) dX12_island_69 (by decide) (fun q37 => ?_) (fun q37 => ?_)
  · have hv := hv.1 q37
    refine z_aload_n dX12_island_85 rfl ?_
    refine z_callV (As := []) (st := []) dX12_island_86 zl_X12_152 zv_X12_begin (by decide) rfl zn_160 zo_160 rfl rfl (Nat.le_of_ble_eq_true rfl) ⟨Nat.le_refl _, Nat.le_refl _⟩ ⟨Nat.le_refl _, Nat.le_refl _⟩ hv (fun v1 I38 L39 P40 nx1 q41 => ?_)
    obtain ⟨rfl, rfl, hv⟩ := q41
    refine z_aload_n dX12_island_89 rfl ?_
    obtain ⟨h43, hv⟩ := hv
    refine z_getP dX12_island_90 zf_X12_20 zn_160 zo_160 (fun _ _ _ _ _ => rfl) (h43 160 11 163 zp_160_11) ?_
    refine z_aload_n dX12_island_93 rfl ?_
    refine z_getI dX12_island_94 zf_X12_261 zn_160 zo_160 (fun _ _ _ _ _ => rfl) ?_
    obtain ⟨h44, hv⟩ := hv
    refine z_iaload dX12_island_97 zn_163 zh_163 h44 ?_
    exact z_ireturn dX12_island_98 rfl rfl (Nat.le_refl _) (Nat.le_refl _) hv
  · have hv := hv.2 q37
    refine z_aload_n dX12_island_72 rfl ?_
    refine z_getP dX12_island_73 zf_X12_131 zn_160 zo_160 (fun _ _ _ _ _ => rfl) (hP 160 62 199 zp_160_62) ?_
    refine z_iload_n dX12_island_76 rfl ?_
    refine z_iconst (v := (-1)) dX12_island_77 (by decide) ?_
    obtain ⟨h45, hv⟩ := hv
    refine z_iastore dX12_island_78 zn_199 zh_199 h45 (z_nmI (fun I47 e46 => ?_))
    have hv := hv I47 e46
    refine z_iinc (v2 := x1 + 1) (lv2 := [some (.ref 160), some (.int (x1 + 1))]) dX12_island_79 rfl (by rfl) (by decide) rfl rfl ?_
    refine z_goto (tgt := 67) dX12_island_82 (by decide) ?_
    exact hv
abbrev v_X12_island_22 (d : Nat) (Q : zQt)  (I : zI) (L : zL) (P : zP) : Prop :=
  (((bP (I 160 4 = 0)) = 0 →
    Q (some (.int (-1))) I L P 205
  ) ∧ (¬ (bP (I 160 4 = 0)) = 0 →
    (((I 160 8) = 0 →
      ∀ I28 : zI, I28 = zuI I 160 28 (I 160 29) →
      ∀ I30 : zI, I30 = zuI I28 160 59 0 →
      gw_X12_island (d + 1) Q 67 [some (.ref 160), some (.int 0)] [] I30 L P
    ) ∧ (¬ (I 160 8) = 0 →
      zMv zm_X12_readLine d [.ref 160] I L P (fun I32 L33 P34 =>
        gw_X12_island (d + 1) Q 22 [some (.ref 160), none] [] I32 L33 P34
      )
    ))
  ))
set_option maxRecDepth 20000 in
theorem g_X12_island_22 {d : Nat} {Q : zQt}  {I : zI} {L : zL} {P : zP} (hP : zPk P) (hv : v_X12_island_22 d Q  I L P) : gw_X12_island (d + 1) Q 22 [some (.ref 160), none] [] I L P := by
  unfold v_X12_island_22 at hv
  refine z_aload_n dX12_island_22 rfl ?_
  refine z_callV (As := []) (st := []) dX12_island_23 zl_X12_233 zv_X12_isGood (by decide) rfl zn_160 zo_160 rfl rfl (Nat.le_of_ble_eq_true rfl) ⟨Nat.le_refl _, Nat.le_refl _⟩ ⟨Nat.le_refl _, Nat.le_refl _⟩ (sp_X12_isGood hP (K := fun r I' L' P' => bP (I 160 4 = 0) = r ∧ I = I' ∧ L = L' ∧ P = P') ⟨rfl, rfl, rfl, rfl⟩) (fun v1 I2 L2 P2 nx1 q19 => ?_)
  obtain ⟨rfl, r18, rfl, rfl, rfl, rfl, rfl⟩ := q19
  refine z_if_eq (tgt := 43) dX12_island_26 (by decide) (fun q20 => ?_) (fun q20 => ?_)
  · have hv := hv.1 q20
    refine z_aload_n dX12_island_43 rfl ?_
    refine z_callV (As := []) (st := []) dX12_island_44 zl_X12_233 zv_X12_isGood (by decide) rfl zn_160 zo_160 rfl rfl (Nat.le_of_ble_eq_true rfl) ⟨Nat.le_refl _, Nat.le_refl _⟩ ⟨Nat.le_refl _, Nat.le_refl _⟩ (sp_X12_isGood hP (K := fun r I' L' P' => bP (I 160 4 = 0) = r ∧ I = I' ∧ L = L' ∧ P = P') ⟨rfl, rfl, rfl, rfl⟩) (fun v1 I2 L2 P2 nx1 q22 => ?_)
    obtain ⟨rfl, r21, rfl, rfl, rfl, rfl, rfl⟩ := q22
    refine z_if_ne (tgt := 52) dX12_island_47 (by decide) (fun q23 => ?_) (fun q23 => ?_)
    · exact absurd q20 q23
    · skip
      refine z_iconst (v := (-1)) dX12_island_50 (by decide) ?_
      exact z_ireturn dX12_island_51 rfl rfl (Nat.le_refl _) (Nat.le_refl _) hv
  · have hv := hv.2 q20
    refine z_aload_n dX12_island_29 rfl ?_
    refine z_getI dX12_island_30 zf_X12_205 zn_160 zo_160 (fun _ _ _ _ _ => rfl) ?_
    refine z_if_eq (tgt := 43) dX12_island_33 (by decide) (fun q24 => ?_) (fun q24 => ?_)
    · have hv := hv.1 q24
      refine z_aload_n dX12_island_43 rfl ?_
      refine z_callV (As := []) (st := []) dX12_island_44 zl_X12_233 zv_X12_isGood (by decide) rfl zn_160 zo_160 rfl rfl (Nat.le_of_ble_eq_true rfl) ⟨Nat.le_refl _, Nat.le_refl _⟩ ⟨Nat.le_refl _, Nat.le_refl _⟩ (sp_X12_isGood hP (K := fun r I' L' P' => bP (I 160 4 = 0) = r ∧ I = I' ∧ L = L' ∧ P = P') ⟨rfl, rfl, rfl, rfl⟩) (fun v1 I2 L2 P2 nx1 q26 => ?_)
      obtain ⟨rfl, r25, rfl, rfl, rfl, rfl, rfl⟩ := q26
      refine z_if_ne (tgt := 52) dX12_island_47 (by decide) (fun q27 => ?_) (fun q27 => ?_)
      · skip
        refine z_aload_n dX12_island_52 rfl ?_
        refine z_aload_n dX12_island_53 rfl ?_
        refine z_getI dX12_island_54 zf_X12_243 zn_160 zo_160 (fun _ _ _ _ _ => rfl) ?_
        refine z_putI dX12_island_57 zf_X12_261 zn_160 zo_160 (Or.inl rfl) (fun _ _ _ _ _ => rfl) rfl rfl (z_nmI (fun I28 e29 => ?_))
        have hv := hv I28 e29
        refine z_aload_n dX12_island_60 rfl ?_
        refine z_iconst (v := 0) dX12_island_61 (by decide) ?_
        refine z_putI dX12_island_62 zf_X12_267 zn_160 zo_160 (Or.inl rfl) (fun _ _ _ _ _ => rfl) rfl rfl (z_nmI (fun I30 e31 => ?_))
        have hv := hv I30 e31
        refine z_iconst (v := 0) dX12_island_65 (by decide) ?_
        refine z_istore_n (lv2 := [some (.ref 160), some (.int 0)]) dX12_island_66 (by decide) rfl rfl ?_
        exact hv
      · exact absurd q27 q20
    · have hv := hv.2 q24
      refine z_aload_n dX12_island_36 rfl ?_
      refine z_callV (As := []) (st := []) dX12_island_37 zl_X12_264 zv_X12_readLine (by decide) rfl zn_160 zo_160 rfl rfl (Nat.le_of_ble_eq_true rfl) ⟨Nat.le_refl _, Nat.le_refl _⟩ ⟨Nat.le_refl _, Nat.le_refl _⟩ hv (fun v1 I32 L33 P34 nx1 q35 => ?_)
      obtain ⟨rfl, rfl, hv⟩ := q35
      refine z_goto (tgt := 22) dX12_island_40 (by decide) ?_
      exact hv
abbrev v_X12_island (d : Nat) (Q : zQt)  (I : zI) (L : zL) (P : zP) : Prop :=
  zMv zm_X12_beginText d [.ref 160] I L P (fun I1 L2 P3 =>
    ∀ I6 : zI, I6 = zuI I1 160 29 ((1 : Int32) - (I1 160 28)) →
    zMv zm_X12_clearBank d [.ref 160] I6 L2 P3 (fun I8 L9 P10 =>
      zMv zm_X12_goOn d [.ref 160] I8 L9 P10 (fun I13 L14 P15 =>
        gw_X12_island (d + 1) Q 22 [some (.ref 160), none] [] I13 L14 P15
      )
    )
  )
set_option maxRecDepth 20000 in
theorem g_X12_island {d : Nat} {Q : zQt}  {I : zI} {L : zL} {P : zP} (hP : zPk P) (hv : v_X12_island d Q  I L P) : zM zm_X12_island (d + 1) 0 0 [.ref 160] I L P 205 Q := by
  unfold v_X12_island at hv
  refine zM_of (lv0 := [some (.ref 160), none]) (by decide +kernel) (Nat.le_of_ble_eq_true rfl) rfl ?_
  refine z_aload_n dX12_island_0 rfl ?_
  refine z_callV (As := []) (st := []) dX12_island_1 zl_X12_258 zv_X12_beginText (by decide) rfl zn_160 zo_160 rfl rfl (Nat.le_of_ble_eq_true rfl) ⟨Nat.le_refl _, Nat.le_refl _⟩ ⟨Nat.le_refl _, Nat.le_refl _⟩ hv (fun v1 I1 L2 P3 nx1 q4 => ?_)
  obtain ⟨rfl, rfl, hv⟩ := q4
  refine z_aload_n dX12_island_4 rfl ?_
  refine z_iconst (v := 1) dX12_island_5 (by decide) ?_
  refine z_aload_n dX12_island_6 rfl ?_
  refine z_getI dX12_island_7 zf_X12_261 zn_160 zo_160 (fun _ _ _ _ _ => rfl) ?_
  refine z_isub dX12_island_10 ?_
  refine z_putI dX12_island_11 zf_X12_243 zn_160 zo_160 (Or.inl rfl) (fun _ _ _ _ _ => rfl) rfl rfl (z_nmI (fun I6 e7 => ?_))
  have hv := hv I6 e7
  refine z_aload_n dX12_island_14 rfl ?_
  refine z_callV (As := []) (st := []) dX12_island_15 zl_X12_149 zv_X12_clearBank (by decide) rfl zn_160 zo_160 rfl rfl (Nat.le_of_ble_eq_true rfl) ⟨Nat.le_refl _, Nat.le_refl _⟩ ⟨Nat.le_refl _, Nat.le_refl _⟩ hv (fun v1 I8 L9 P10 nx1 q11 => ?_)
  obtain ⟨rfl, rfl, hv⟩ := q11
  refine z_aload_n dX12_island_18 rfl ?_
  refine z_callV (As := []) (st := []) dX12_island_19 zl_X12_237 zv_X12_goOn (by decide) rfl zn_160 zo_160 rfl rfl (Nat.le_of_ble_eq_true rfl) ⟨Nat.le_refl _, Nat.le_refl _⟩ ⟨Nat.le_refl _, Nat.le_refl _⟩ hv (fun v1 I13 L14 P15 nx1 q16 => ?_)
  obtain ⟨rfl, rfl, hv⟩ := q16
  exact hv
section IS
variable {d : Nat} {Q : zQt} {T : Nat → Int32} {n rb : Nat} {I0 : zI} {L0 : zL} {P : zP}
def isQ (T : Nat → Int32) (n rb : Nat) (I0 : zI) (L0 : zL) (d : Nat) (Q : zQt) (P : zP) : Sum (Nat × Nat) Ai → Prop
  | .inl q => ∀ I' L', (q.1 ≠ 0 ∧ q.1 < 100) → iFr rb I0 L0 I' L' → I' 160 4 = nI q.1 → I' 160 5 = nI q.2 → Q (some (.int (-1))) I' L' P 205
  | .inr A => ∀ I' L' e', iM rb I' L' A → pS T n I' L' e' → I' 160 4 = 0 → I' 160 5 = I0 160 5 → iFr rb I0 L0 I' L' → gw_X12_island (d + 1) Q 67 [some (.ref 160), some (.int 0)] [] (zuI (zuI I' 160 28 (I' 160 29)) 160 59 0) L' P
theorem lp_X12_island_22 (hP : zPk P) (hd : 7 ≤ d) {res : Sum (Nat × Nat) Ai} (kk : isQ T n rb I0 L0 d Q P res) :
    ∀ f A e I L, n - e < f → rIs T n f A e = res → iM rb I L A → pS T n I L e → I 160 4 = 0 → I 160 5 = I0 160 5 → iFr rb I0 L0 I L → gw_X12_island (d + 1) Q 22 [some (.ref 160), none] [] I L P := by
  intro f
  induction f with
  | zero => intro A e I L h; exact absurd h (Nat.not_lt_zero _)
  | succ f ih =>
    intro A e I L hf hr hM hp h4 h5 hF
    have he : e ≤ n := hp.1.2.2.2
    have k0 := (pS_k hp).1
    have hB := rLn_B (T := T) (n := n) (A := A) he
    have hr : @ite _ (tK T n e = 275) (Classical.propDecidable _) (.inr A) (match rLn T n A e with | .inl q => .inl q | .inr (e', A') => rIs T n f A' e') = res := hr
    refine g_X12_island_22 hP ⟨fun z => absurd h4 (bP_0.mp z), fun _ => ⟨fun z I1 e1 I2 e2 => ?_, fun z => ?_⟩⟩
    · rw [k0] at z
      rw [if_pos z] at hr
      subst hr
      subst e1
      subst e2
      exact kk I L e hM hp h4 h5 hF
    · rw [k0] at z
      rw [if_neg z] at hr
      refine sp_X12_readLine hP hM hp h4 hd ?_
      revert hr hB
      match rLn T n A e with
      | .inl q =>
        intro hB hr I' L' hk g1 g2 g3 g4
        have hr : (.inl q : Sum (Nat × Nat) Ai) = res := hr
        subst hr
        refine g_X12_island_22 hP ⟨fun _ => kk I' L' hk (iFr_tr hF g1) g2 g3, fun y => absurd (bP_n.mp y) ?_⟩
        rw [g2, nI_zero (by omega)]; exact hk.1
      | .inr (e', A') =>
        intro hB hr I' L' g1 g2 g3 g4 g5
        have := hB e' A' rfl
        exact ih A' e' I' L' (by omega) hr g1 g2 g3 (by rw [g4]; exact h5) (iFr_tr hF g5)
end IS
