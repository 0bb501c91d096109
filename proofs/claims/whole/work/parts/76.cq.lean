/-! ===== the class: the fewest sayings ===== -/
/-- what a trial may change -/
def tFr (I0 I : zI) : Prop := ∀ a, ¬ (a = 23 ∨ (25 ≤ a ∧ a ≤ 72) ∨ a = 86 ∨ a = 87) → I a = I0 a
theorem tFr_tr {I0 I1 I2 : zI} (h1 : tFr I0 I1) (h2 : tFr I1 I2) : tFr I0 I2 := fun a h => (h2 a h).trans (h1 a h)
theorem tFr_of {cs : List Nat} {I0 I : zI} (h : cFr cs I0 I) (hc : ∀ a ∈ cs, a = 23 ∨ (25 ≤ a ∧ a ≤ 72) ∨ a = 86 ∨ a = 87) : tFr I0 I := fun a ha => h a (fun z => ha (hc a z))
theorem tFr_w {I0 I : zI} (h : wMf I0 I) : tFr I0 I := fun a ha => h a (by omega)
def pFr (P0 P : zP) : Prop := ∀ a k, ¬ (a = 86 ∧ k = 1) → P a k = P0 a k
theorem pFr_u {P0 P : zP} (h : pFr P0 P) (v : Option Nat) : pFr P0 (zuP P 86 1 v) := by
  intro a k hk
  rw [← h a k hk]
  by_cases e : a = 86
  · subst e; rw [zuP_o (fun z => hk ⟨rfl, z⟩)]
  · rw [zuP_ne e]
theorem pFr_k {P0 P : zP} (h : pFr P0 P) (hP : zPk P0) : zPk P := by
  intro a k b hb
  by_cases e : a = 86 ∧ k = 1
  · obtain ⟨rfl, rfl⟩ := e
    rw [zst_s1 (Or.inr (Or.inl ⟨rfl, rfl, rfl⟩))] at hb; cases hb
  · rw [h a k e]; exact hP a k b hb
theorem sV_t {P P' : zP} {t gn : Nat} {M I I' : zI} {po : Nat → Prop} {g : Nat → Nat → Nat} (h : sV P 73 85 74 t M I po g gn) (hp : pFr P P') (hf : tFr I I') : sV P' 73 85 74 t M I' po g gn := by
  obtain ⟨⟨w1, w2, w3, w4, w5, w6, w7⟩, hg, ⟨h4, hgn⟩, htw⟩ := h
  have hil := w6.1
  unfold il at hil
  have hnp := w6.2.1
  exact ⟨⟨w1, cS_c w2 (by rw [hf 73 (by omega)]) (hf 85 (by omega)), w3, w4, by rw [hp 73 1 (by omega)]; exact w5, iH_c w6 (hf t (by omega)), fun p hp => cG_c (w7 p hp) (hf _ (by omega))⟩, hg, ⟨by rw [hf 73 (by omega)]; exact h4, hgn⟩, htw⟩
theorem tR_t {M I I' : zI} {t st : Nat} {b : Nat → Nat} {cd : Nat → Cd} (h : tR M I t st b cd) (hf : tFr I I') : tR M I' t st b cd := by
  have hil := h.1.1
  unfold il at hil
  exact tR_c h (fun a h1 h2 => hf a (by omega))
abbrev gw_X11_trySayings (d : Nat) (Q : zQt) (pc : Nat) (lv : zV) (st : List Value) (I : zI) (L : zL) (P : zP) : Prop := zW zm_X11_trySayings (zRm d 0 0) 0 0 Q pc lv st I L P 205 0 0
abbrev v_X11_trySayings_38 (d : Nat) (Q : zQt) (x1 : Int64) (x3 : Int32) (x4 : Int32) (I : zI) (L : zL) (P : zP) : Prop :=
  ((((1 : Int32) <<< (x3 &&& 31) : Int32) ≤ x4 →
    gw_X11_trySayings (d + 1) Q 24 [some (.ref 0), some (.long x1), none, some (.int (x3 + 1)), none, none] [] I L P
  ) ∧ (¬ ((1 : Int32) <<< (x3 &&& 31) : Int32) ≤ x4 →
    ((¬ (lg_cmp (((x1 : Int64) >>> ((x4 : Int32).toInt64 &&& 63) : Int64) &&& 1 : Int64) 0) = 0 →
      zMv zm_X11_takeLeft d [.ref 0, .int x4] I L P (fun I18 L19 P20 =>
        zPk P20 ∧
        zMv zm_X4_weighSaying d [.ref 23, .ref 86, .int x3] I18 L19 P20 (fun I24 L25 P26 =>
          zPk P26 ∧
          zMr zm_X4_result d [.ref 23] I24 L25 P26 (fun r34 I30 L31 P32 =>
            zMi zm_X6_hear d [.ref 86, .ref r34] I30 L31 P32 (fun r39 I35 L36 P37 =>
              ((r39 ≤ 0 →
                gw_X11_trySayings (d + 1) Q 38 [some (.ref 0), some (.long x1), none, some (.int x3), some (.int (x4 + 1)), none] [] I35 L36 P37
              ) ∧ (¬ r39 ≤ 0 →
                zPk P37 ∧
                zMv zm_X6_note d [.ref 86, .ref 120, .int (x4 ||| ((1 : Int32) <<< (x3 &&& 31) : Int32) : Int32)] I35 L36 P37 (fun I42 L43 P44 =>
                  gw_X11_trySayings (d + 1) Q 38 [some (.ref 0), some (.long (x1 ||| ((1 : Int64) <<< (((x4 ||| ((1 : Int32) <<< (x3 &&& 31) : Int32) : Int32) : Int32).toInt64 &&& 63) : Int64) : Int64)), none, some (.int x3), some (.int (x4 + 1)), none] [] I42 L43 P44
                )
              ))
            )
          )
        )
      )
    ) ∧ ((lg_cmp (((x1 : Int64) >>> ((x4 : Int32).toInt64 &&& 63) : Int64) &&& 1 : Int64) 0) = 0 →
      gw_X11_trySayings (d + 1) Q 38 [some (.ref 0), some (.long x1), none, some (.int x3), some (.int (x4 + 1)), none] [] I L P
    ))
  ))
set_option maxRecDepth 20000 in
theorem g_X11_trySayings_38 {d : Nat} {Q : zQt} {x1 : Int64} {x3 : Int32} {x4 : Int32} {I : zI} {L : zL} {P : zP} (hP : zPk P) (hv : v_X11_trySayings_38 d Q x1 x3 x4 I L P) : gw_X11_trySayings (d + 1) Q 38 [some (.ref 0), some (.long x1), none, some (.int x3), some (.int x4), none] [] I L P := by
  unfold v_X11_trySayings_38 at hv
  refine z_iload dX11_trySayings_38 rfl ?_
  refine z_iconst (v := 1) dX11_trySayings_40 (by decide) ?_
  refine z_iload_n dX11_trySayings_41 rfl ?_
  refine z_ishl dX11_trySayings_42 ?_
  refine z_icmp_ge (tgt := 129) dX11_trySayings_43 (by decide) (fun q16 => ?_) (fun q16 => ?_)
  · have hv := hv.1 q16
    refine z_iinc (v2 := x3 + 1) (lv2 := [some (.ref 0), some (.long x1), none, some (.int (x3 + 1)), some (.int x4), none]) dX11_trySayings_129 rfl (by rfl) (by decide) rfl rfl ?_
    refine z_goto (tgt := 24) dX11_trySayings_132 (by decide) ?_
    exact z_sub (by exact ⟨rfl, ⟨rfl, ⟨rfl, trivial⟩⟩⟩) hv
  · have hv := hv.2 q16
    refine z_lload_n dX11_trySayings_46 rfl ?_
    refine z_iload dX11_trySayings_47 rfl ?_
    refine z_lshr dX11_trySayings_49 ?_
    refine z_lconst (v := 1) dX11_trySayings_50 (by decide) ?_
    refine z_land dX11_trySayings_51 ?_
    refine z_lconst (v := 0) dX11_trySayings_52 (by decide) ?_
    refine z_lcmp dX11_trySayings_53 ?_
    refine z_if_ne (tgt := 60) dX11_trySayings_54 (by decide) (fun q17 => ?_) (fun q17 => ?_)
    · have hv := hv.1 q17
      refine z_aload_n dX11_trySayings_60 rfl ?_
      refine z_iload dX11_trySayings_61 rfl ?_
      refine z_callV (As := [.int x4]) (st := []) dX11_trySayings_63 zl_X11_265 zv_X11_takeLeft (by decide) rfl zn_0 zo_0 rfl rfl (Nat.le_of_ble_eq_true rfl) ⟨Nat.le_refl _, Nat.le_refl _⟩ ⟨Nat.le_refl _, Nat.le_refl _⟩ hv (fun v1 I18 L19 P20 nx1 q21 => ?_)
      obtain ⟨rfl, rfl, hv⟩ := q21
      refine z_aload_n dX11_trySayings_66 rfl ?_
      obtain ⟨h23, hv⟩ := hv
      refine z_getP dX11_trySayings_67 zf_X11_45 zn_0 zo_0 (fun _ _ _ _ _ => rfl) (h23 0 5 23 zp_0_5) ?_
      refine z_aload_n dX11_trySayings_70 rfl ?_
      refine z_getP dX11_trySayings_71 zf_X11_65 zn_0 zo_0 (fun _ _ _ _ _ => rfl) (h23 0 7 86 zp_0_7) ?_
      refine z_iload_n dX11_trySayings_74 rfl ?_
      refine z_callV (As := [.ref 86, .int x3]) (st := []) dX11_trySayings_75 zl_X11_176 zv_X4_weighSaying (by decide) rfl zn_23 zo_23 rfl rfl (Nat.le_of_ble_eq_true rfl) ⟨Nat.le_refl _, Nat.le_refl _⟩ ⟨Nat.le_refl _, Nat.le_refl _⟩ hv (fun v1 I24 L25 P26 nx1 q27 => ?_)
      obtain ⟨rfl, rfl, hv⟩ := q27
      refine z_aload_n dX11_trySayings_78 rfl ?_
      obtain ⟨h29, hv⟩ := hv
      refine z_getP dX11_trySayings_79 zf_X11_65 zn_0 zo_0 (fun _ _ _ _ _ => rfl) (h29 0 7 86 zp_0_7) ?_
      refine z_aload_n dX11_trySayings_82 rfl ?_
      refine z_getP dX11_trySayings_83 zf_X11_45 zn_0 zo_0 (fun _ _ _ _ _ => rfl) (h29 0 5 23 zp_0_5) ?_
      refine z_callV (As := []) (st := [.ref 86]) dX11_trySayings_86 zl_X11_154 zv_X4_result (by decide) rfl zn_23 zo_23 rfl rfl (Nat.le_of_ble_eq_true rfl) ⟨Nat.le_refl _, Nat.le_refl _⟩ ⟨Nat.le_refl _, Nat.le_refl _⟩ hv (fun v1 I30 L31 P32 nx1 q33 => ?_)
      obtain ⟨rfl, r34, rfl, hv⟩ := q33
      refine z_callV (As := [.ref r34]) (st := []) dX11_trySayings_89 zl_X11_170 zv_X6_hear (by decide) rfl zn_86 zo_86 rfl rfl (Nat.le_of_ble_eq_true rfl) ⟨Nat.le_refl _, Nat.le_refl _⟩ ⟨Nat.le_refl _, Nat.le_refl _⟩ hv (fun v1 I35 L36 P37 nx1 q38 => ?_)
      obtain ⟨rfl, r39, rfl, hv⟩ := q38
      refine z_if_le (tgt := 123) dX11_trySayings_92 (by decide) (fun q40 => ?_) (fun q40 => ?_)
      · have hv := hv.1 q40
        refine z_iinc (v2 := x4 + 1) (lv2 := [some (.ref 0), some (.long x1), none, some (.int x3), some (.int (x4 + 1)), none]) dX11_trySayings_123 rfl (by rfl) (by decide) rfl rfl ?_
        refine z_goto (tgt := 38) dX11_trySayings_126 (by decide) ?_
        exact hv
      · have hv := hv.2 q40
        refine z_iload dX11_trySayings_95 rfl ?_
        refine z_iconst (v := 1) dX11_trySayings_97 (by decide) ?_
        refine z_iload_n dX11_trySayings_98 rfl ?_
        refine z_ishl dX11_trySayings_99 ?_
        refine z_ior dX11_trySayings_100 ?_
        refine z_istore (lv2 := [some (.ref 0), some (.long x1), none, some (.int x3), some (.int x4), some (.int (x4 ||| ((1 : Int32) <<< (x3 &&& 31) : Int32) : Int32))]) dX11_trySayings_101 (by decide) rfl rfl ?_
        refine z_aload_n dX11_trySayings_103 rfl ?_
        obtain ⟨h41, hv⟩ := hv
        refine z_getP dX11_trySayings_104 zf_X11_65 zn_0 zo_0 (fun _ _ _ _ _ => rfl) (h41 0 7 86 zp_0_7) ?_
        refine z_aload_n dX11_trySayings_107 rfl ?_
        refine z_getP dX11_trySayings_108 zf_X11_92 zn_0 zo_0 (fun _ _ _ _ _ => rfl) (h41 0 12 120 zp_0_12) ?_
        refine z_iload dX11_trySayings_111 rfl ?_
        refine z_callV (As := [.ref 120, .int (x4 ||| ((1 : Int32) <<< (x3 &&& 31) : Int32) : Int32)]) (st := []) dX11_trySayings_113 zl_X11_261 zv_X6_note (by decide) rfl zn_86 zo_86 rfl rfl (Nat.le_of_ble_eq_true rfl) ⟨Nat.le_refl _, Nat.le_refl _⟩ ⟨Nat.le_refl _, Nat.le_refl _⟩ hv (fun v1 I42 L43 P44 nx1 q45 => ?_)
        obtain ⟨rfl, rfl, hv⟩ := q45
        refine z_lload_n dX11_trySayings_116 rfl ?_
        refine z_lconst (v := 1) dX11_trySayings_117 (by decide) ?_
        refine z_iload dX11_trySayings_118 rfl ?_
        refine z_lshl dX11_trySayings_120 ?_
        refine z_lor dX11_trySayings_121 ?_
        refine z_lstore_n (lv2 := [some (.ref 0), some (.long (x1 ||| ((1 : Int64) <<< (((x4 ||| ((1 : Int32) <<< (x3 &&& 31) : Int32) : Int32) : Int32).toInt64 &&& 63) : Int64) : Int64)), none, some (.int x3), some (.int x4), some (.int (x4 ||| ((1 : Int32) <<< (x3 &&& 31) : Int32) : Int32))]) dX11_trySayings_122 (by decide) rfl rfl ?_
        refine z_iinc (v2 := x4 + 1) (lv2 := [some (.ref 0), some (.long (x1 ||| ((1 : Int64) <<< (((x4 ||| ((1 : Int32) <<< (x3 &&& 31) : Int32) : Int32) : Int32).toInt64 &&& 63) : Int64) : Int64)), none, some (.int x3), some (.int (x4 + 1)), some (.int (x4 ||| ((1 : Int32) <<< (x3 &&& 31) : Int32) : Int32))]) dX11_trySayings_123 rfl (by rfl) (by decide) rfl rfl ?_
        refine z_goto (tgt := 38) dX11_trySayings_126 (by decide) ?_
        exact z_sub (by exact ⟨rfl, ⟨rfl, ⟨rfl, ⟨rfl, trivial⟩⟩⟩⟩) hv
    · have hv := hv.2 q17
      refine z_goto (tgt := 123) dX11_trySayings_57 (by decide) ?_
      refine z_iinc (v2 := x4 + 1) (lv2 := [some (.ref 0), some (.long x1), none, some (.int x3), some (.int (x4 + 1)), none]) dX11_trySayings_123 rfl (by rfl) (by decide) rfl rfl ?_
      refine z_goto (tgt := 38) dX11_trySayings_126 (by decide) ?_
      exact hv
abbrev v_X11_trySayings_24 (d : Nat) (Q : zQt) (x1 : Int64) (x3 : Int32) (I : zI) (L : zL) (P : zP) : Prop :=
  ∃ b12 : Nat, P 0 2 = some b12 ∧
  (b12 < 205 ∧ (zsh b12).1 = 2) ∧
  (((I b12 4) ≤ x3 →
    Q (some (.long x1)) I L P 205
  ) ∧ (¬ (I b12 4) ≤ x3 →
    gw_X11_trySayings (d + 1) Q 38 [some (.ref 0), some (.long x1), none, some (.int x3), some (.int 0), none] [] I L P
  ))
set_option maxRecDepth 20000 in
theorem g_X11_trySayings_24 {d : Nat} {Q : zQt} {x1 : Int64} {x3 : Int32} {I : zI} {L : zL} {P : zP} (hP : zPk P) (hv : v_X11_trySayings_24 d Q x1 x3 I L P) : gw_X11_trySayings (d + 1) Q 24 [some (.ref 0), some (.long x1), none, some (.int x3), none, none] [] I L P := by
  unfold v_X11_trySayings_24 at hv
  refine z_iload_n dX11_trySayings_24 rfl ?_
  refine z_aload_n dX11_trySayings_25 rfl ?_
  obtain ⟨b12, h13, hv⟩ := hv
  refine z_getP dX11_trySayings_26 zf_X11_26 zn_0 zo_0 (fun _ _ _ _ _ => rfl) h13 ?_
  obtain ⟨h14, hv⟩ := hv
  refine z_getI dX11_trySayings_29 zf_X11_173 h14.1 h14.2 (fun _ _ _ _ _ => rfl) ?_
  refine z_icmp_ge (tgt := 135) dX11_trySayings_32 (by decide) (fun q15 => ?_) (fun q15 => ?_)
  · have hv := hv.1 q15
    refine z_lload_n dX11_trySayings_135 rfl ?_
    exact z_lreturn dX11_trySayings_136 rfl (Nat.le_refl _) (Nat.le_refl _) hv
  · have hv := hv.2 q15
    refine z_iconst (v := 0) dX11_trySayings_35 (by decide) ?_
    refine z_istore (lv2 := [some (.ref 0), some (.long x1), none, some (.int x3), some (.int 0), none]) dX11_trySayings_36 (by decide) rfl rfl ?_
    exact hv
abbrev v_X11_trySayings (d : Nat) (Q : zQt)  (I : zI) (L : zL) (P : zP) : Prop :=
  zMv zm_J7_fill_d0a16 d [.ref 120, .long 0] I L P (fun I1 L2 P3 =>
    zPk P3 ∧
    zMv zm_X6_note d [.ref 73, .ref 120, .int 0] I1 L2 P3 (fun I7 L8 P9 =>
      gw_X11_trySayings (d + 1) Q 24 [some (.ref 0), some (.long 1), none, some (.int 0), none, none] [] I7 L8 P9
    )
  )
set_option maxRecDepth 20000 in
theorem g_X11_trySayings {d : Nat} {Q : zQt}  {I : zI} {L : zL} {P : zP} (hP : zPk P) (hv : v_X11_trySayings d Q  I L P) : zM zm_X11_trySayings (d + 1) 0 0 [.ref 0] I L P 205 Q := by
  unfold v_X11_trySayings at hv
  refine zM_of (lv0 := [some (.ref 0), none, none, none, none, none]) (by decide +kernel) (Nat.le_of_ble_eq_true rfl) rfl ?_
  refine z_aload_n dX11_trySayings_0 rfl ?_
  refine z_getP dX11_trySayings_1 zf_X11_92 zn_0 zo_0 (fun _ _ _ _ _ => rfl) (hP 0 12 120 zp_0_12) ?_
  refine z_lconst (v := 0) dX11_trySayings_4 (by decide) ?_
  refine z_callS (As := [.ref 120, .long 0]) (st := []) dX11_trySayings_5 zl_X11_255 zs_J7_fill_d0a16 rfl rfl (Nat.le_of_ble_eq_true rfl) ⟨Nat.le_refl _, Nat.le_refl _⟩ ⟨Nat.le_refl _, Nat.le_refl _⟩ hv (fun v1 I1 L2 P3 nx1 q4 => ?_)
  obtain ⟨rfl, rfl, hv⟩ := q4
  refine z_aload_n dX11_trySayings_8 rfl ?_
  obtain ⟨h6, hv⟩ := hv
  refine z_getP dX11_trySayings_9 zf_X11_57 zn_0 zo_0 (fun _ _ _ _ _ => rfl) (h6 0 6 73 zp_0_6) ?_
  refine z_aload_n dX11_trySayings_12 rfl ?_
  refine z_getP dX11_trySayings_13 zf_X11_92 zn_0 zo_0 (fun _ _ _ _ _ => rfl) (h6 0 12 120 zp_0_12) ?_
  refine z_iconst (v := 0) dX11_trySayings_16 (by decide) ?_
  refine z_callV (As := [.ref 120, .int 0]) (st := []) dX11_trySayings_17 zl_X11_261 zv_X6_note (by decide) rfl zn_73 zo_73 rfl rfl (Nat.le_of_ble_eq_true rfl) ⟨Nat.le_refl _, Nat.le_refl _⟩ ⟨Nat.le_refl _, Nat.le_refl _⟩ hv (fun v1 I7 L8 P9 nx1 q10 => ?_)
  obtain ⟨rfl, rfl, hv⟩ := q10
  refine z_lconst (v := 1) dX11_trySayings_20 (by decide) ?_
  refine z_lstore_n (lv2 := [some (.ref 0), some (.long 1), none, none, none, none]) dX11_trySayings_21 (by decide) rfl rfl ?_
  refine z_iconst (v := 0) dX11_trySayings_22 (by decide) ?_
  refine z_istore_n (lv2 := [some (.ref 0), some (.long 1), none, some (.int 0), none, none]) dX11_trySayings_23 (by decide) rfl rfl ?_
  exact hv
section FW
variable {d : Nat} {Q : zQt} {M I0 : zI} {L0 : zL} {P0 : zP} {t st gn : Nat} {b : Nat → Nat} {cd : Nat → Cd} {po : Nat → Prop} {g : Nat → Nat → Nat}
/-- what is noted of the sets below n, by their sayings below m -/
def nTd (M : zI) (gn : Nat) (po : Nat → Prop) (m n : Nat) (x : Int64) (L : zL) : Prop := (∀ s, s < 64 → (lB1 x s ↔ s < n ∧ ∃ q, sS M gn po m s = some q)) ∧ ∀ w s, w < vN M → po w → s < 64 → (lB1 (L 120 w) s ↔ s < n ∧ ∃ q, sS M gn po m s = some q ∧ q w)
theorem nTd_up {m : Nat} {x : Int64} {L : zL} (h : nTd M gn po m (2 ^ m) x L) : nTd M gn po (m + 1) (2 ^ m + 0) x L := by
  have e : ∀ s, s < 2 ^ m → sS M gn po (m + 1) s = sS M gn po m s := by
    intro s hs
    cases h : sS M gn po m s with
    | none => exact sS_n h
    | some q => exact sS_0 h (bit_not hs)
  refine ⟨fun s hs => ?_, fun w s hw pw hs => ?_⟩
  · rw [h.1 s hs]
    exact ⟨fun z => ⟨z.1, by rw [e s z.1]; exact z.2⟩, fun z => ⟨z.1, by rw [← e s z.1]; exact z.2⟩⟩
  · rw [h.2 w s hw pw hs]
    exact ⟨fun z => ⟨z.1, by rw [e s z.1]; exact z.2⟩, fun z => ⟨z.1, by rw [← e s z.1]; exact z.2⟩⟩
theorem nTd_no {m i : Nat} {x : Int64} {L : zL} (h : nTd M gn po (m + 1) (2 ^ m + i) x L) (hn : sS M gn po (m + 1) (2 ^ m + i) = none) : nTd M gn po (m + 1) (2 ^ m + (i + 1)) x L := by
  refine ⟨fun s hs => ?_, fun w s hw pw hs => ?_⟩
  · rw [h.1 s hs]
    refine ⟨fun z => ⟨by omega, z.2⟩, fun z => ⟨?_, z.2⟩⟩
    by_cases e : s = 2 ^ m + i
    · obtain ⟨q, hq⟩ := z.2; rw [e, hn] at hq; cases hq
    · omega
  · rw [h.2 w s hw pw hs]
    refine ⟨fun z => ⟨by omega, z.2⟩, fun z => ⟨?_, z.2⟩⟩
    by_cases e : s = 2 ^ m + i
    · obtain ⟨q, hq, -⟩ := z.2; rw [e, hn] at hq; cases hq
    · omega
theorem pw6 {m : Nat} (h : m < 6) : 2 ^ m ≤ 32 := by
  have : 2 ^ m ≤ 2 ^ 5 := Nat.pow_le_pow_right (by decide) (by omega)
  omega
theorem lp_X11_trySayings_38 (hP0 : zPk P0) (hT : MT M) (hR : tR M I0 t st b cd) (hV : sV P0 73 85 74 t M I0 po g gn) (hd : 4 ≤ d) {m : Nat} (hm : m < vNs M) (hm6 : m < 6)
    (kk : ∀ x I L P, tFr I0 I → cFl [120] L0 L → pFr P0 P → nTd M gn po (m + 1) (2 ^ (m + 1)) x L → gw_X11_trySayings (d + 1) Q 24 [some (.ref 0), some (.long x), none, some (.int (nI (m + 1))), none, none] [] I L P) :
    ∀ k i x I L P, i + k = 2 ^ m → tFr I0 I → cFl [120] L0 L → pFr P0 P → nTd M gn po (m + 1) (2 ^ m + i) x L →
      gw_X11_trySayings (d + 1) Q 38 [some (.ref 0), some (.long x), none, some (.int (nI m)), some (.int (nI i)), none] [] I L P := by
  have h32 := pw6 hm6
  have e1m : ((1 : Int32) <<< (nI m &&& 31) : Int32) = nI (2 ^ m) := by rw [show (1 : Int32) = nI 1 from rfl, nx_shl (by omega) (by omega), Nat.one_mul]
  intro k
  induction k with
  | zero =>
    intro i x I L P hi hf hl hp hn
    have hP := pFr_k hp hP0
    refine g_X11_trySayings_38 hP ?_
    unfold v_X11_trySayings_38
    rw [e1m, nI_1]
    refine ⟨fun _ => kk x I L P hf hl hp (by rw [Nat.pow_succ, Nat.mul_two]; rw [show i = 2 ^ m by omega] at hn; exact hn), fun q => absurd (nI_le (by omega) (by omega)) q⟩
  | succ k ih =>
    intro i x I L P hi hf hl hp hn
    have hP := pFr_k hp hP0
    have hV1 := sV_t hV hp hf
    have hR1 := tR_t hR hf
    have hi2 : i < 2 ^ m := by omega
    obtain ⟨b1, b2⟩ := bit_add hi2
    have eS : sS M gn po m (2 ^ m + i) = sS M gn po m i := sS_low m b2
    have hT4 := hV.2.2.1
    have eu : sS M gn po (m + 1) i = sS M gn po m i := by
      cases h : sS M gn po m i with
      | none => exact sS_n h
      | some q => exact sS_0 h (bit_not hi2)
    have lb := hn.1 i (by omega)
    have next : ∀ x' I' L' P', tFr I0 I' → cFl [120] L0 L' → pFr P0 P' → nTd M gn po (m + 1) (2 ^ m + (i + 1)) x' L' → gw_X11_trySayings (d + 1) Q 38 [some (.ref 0), some (.long x'), none, some (.int (nI m)), some (.int (nI i + 1)), none] [] I' L' P' := by
      intro x' I' L' P' g1 g2 g3 g4
      rw [nI_1]
      exact ih (i + 1) x' I' L' P' (by omega) g1 g2 g3 g4
    refine g_X11_trySayings_38 hP ⟨fun q => absurd q (by rw [e1m]; exact nI_ge hi2 (by omega)), fun _ => ⟨fun q => ?_, fun q => ?_⟩⟩
    · rw [lB1_z x (by omega), Classical.not_not, lb, eu] at q
      obtain ⟨-, qq, hq⟩ := q
      obtain ⟨s1, s2⟩ := sS_sub hV.2.2.2 m qq hq
      refine b_takeLeft (q := qq) hP hV1 (fun w hw pw => ?_) (fun w _ z => s1 w z) s2 (by omega) (fun I1 f1 f2 f3 => ?_)
      · rw [hn.2 w i hw pw (by omega), eu, hq]
        exact ⟨fun z => by obtain ⟨-, q', h1, h2⟩ := z; cases h1; exact h2, fun z => ⟨by omega, qq, rfl, z⟩⟩
      · have hp1 : pFr P0 (zuP P 86 1 (some t)) := pFr_u hp _
        have hP1 := pFr_k hp1 hP0
        have hR2 := tR_t hR1 (tFr_of f1 (by simp))
        refine ⟨hP1, b_say hP1 hR2 f2 hm (by omega) (fun I2 f4 f5 => ⟨hP1, sp_X4_result hP1 ?_⟩)⟩
        have hV3 := sV_w f2 f4
        have hR3 := tR_w hR2 f4
        have hf2 : tFr I0 I2 := tFr_tr hf (tFr_tr (tFr_of f1 (by simp)) (tFr_w f4))
        refine b_hear hP1 hT hR3 hV3 f5 (by omega) (fun q0 => ⟨fun _ => ?_, fun z => absurd (by decide) z⟩) (fun q0 I3 f6 f7 f8 => ?_)
        · exact next x I2 L _ hf2 hl hp1 (nTd_no hn (sS_1 (q := qq) (by rw [eS]; exact hq) b1 (Or.inl q0)))
        · have hf3 : tFr I0 I3 := tFr_tr hf2 (tFr_of f6 (by simp))
          have hN : vN M ≤ 256 := pw8 hR.1.2.1
          have hc := cP_le (fun w => qq w ∧ aRw M qq gn (vSy M m) w = 0) (vN M)
          have z0 : ∀ c, c ≤ 256 → (nI c ≤ 0 ↔ c = 0) := fun c hc => by
            rw [show (0 : Int32) = nI 0 from rfl, nI_leI (by omega) (by decide)]; omega
          rw [z0 _ (Nat.le_trans hc hN)]
          refine ⟨fun qz => ?_, fun qz => ⟨hP1, ?_⟩⟩
          · exact next x I3 L _ hf3 hl hp1 (nTd_no hn (sS_1 (q := qq) (by rw [eS]; exact hq) b1 (Or.inr qz)))
          · have eset : (nI i ||| ((1 : Int32) <<< (nI m &&& 31) : Int32) : Int32) = nI (2 ^ m + i) := by
              rw [e1m, nx_or, Nat.or_comm]
              congr 1
              rw [show 2 ^ m = 2 ^ m * 1 from (Nat.mul_one _).symm, ← Nat.two_pow_add_eq_or_of_lt hi2]
            rw [eset]
            have hs := sS_2 (M := M) (gn := gn) (po := po) (s := 2 ^ m + i) (q := qq) (by rw [eS]; exact hq) b1 (fun z => z.elim q0 qz)
            refine sp_X6_note (xs := lP (fun w => qq w ∧ ¬ aRw M qq gn (vSy M m) w = 0) (vN M)) hP1 f8.1.1 f8.1.2.1 (lP_nd _ _) (fun L2 l1 l2 l3 => next _ I3 L2 _ hf3 (fun a ha => (l1 a ha).trans (hl a ha)) hp1 ⟨fun s hs64 => ?_, fun w s hw pw hs64 => ?_⟩)
            · rw [lB1_or _ hs64 (by omega), hn.1 s hs64]
              constructor
              · rintro (⟨z1, z2⟩ | z)
                · exact ⟨by omega, z2⟩
                · subst z; exact ⟨by omega, _, hs⟩
              · rintro ⟨z1, z2⟩
                by_cases e : s = 2 ^ m + i
                · exact Or.inr e
                · exact Or.inl ⟨by omega, z2⟩
            · by_cases hwx : w ∈ lP (fun w => qq w ∧ ¬ aRw M qq gn (vSy M m) w = 0) (vN M)
              · rw [l2 w hwx, lB1_or _ hs64 (by omega), hn.2 w s hw pw hs64]
                constructor
                · rintro (⟨z1, z2⟩ | z)
                  · exact ⟨by omega, z2⟩
                  · subst z; exact ⟨by omega, _, hs, (lP_mem.mp hwx).2⟩
                · rintro ⟨z1, z2⟩
                  by_cases e : s = 2 ^ m + i
                  · exact Or.inr e
                  · exact Or.inl ⟨by omega, z2⟩
              · rw [l3 w hwx, hn.2 w s hw pw hs64]
                constructor
                · rintro ⟨z1, z2⟩; exact ⟨by omega, z2⟩
                · rintro ⟨z1, q', z2, z3⟩
                  by_cases e : s = 2 ^ m + i
                  · rw [e, hs] at z2; cases z2
                    exact absurd (lP_mem.mpr ⟨hw, z3⟩) hwx
                  · exact ⟨by omega, q', z2, z3⟩
    · rw [lB1_z x (by omega), lb, eu] at q
      have hnone : sS M gn po m i = none := by
        cases h : sS M gn po m i with
        | none => rfl
        | some qq => exact absurd ⟨by omega, qq, h⟩ q
      exact next x I L P hf hl hp (nTd_no hn (sS_n (by rw [eS]; exact hnone)))
theorem lp_X11_trySayings_24 (hP0 : zPk P0) (hT : MT M) (ht : P0 0 2 = some t) (hR : tR M I0 t st b cd) (hV : sV P0 73 85 74 t M I0 po g gn) (hd : 4 ≤ d) (h6 : vNs M ≤ 6)
    (kk : ∀ x I L P, tFr I0 I → cFl [120] L0 L → pFr P0 P → nTd M gn po (vNs M) (2 ^ vNs M) x L → Q (some (.long x)) I L P 205) :
    ∀ k m x I L P, m + k = vNs M → tFr I0 I → cFl [120] L0 L → pFr P0 P → nTd M gn po m (2 ^ m) x L →
      gw_X11_trySayings (d + 1) Q 24 [some (.ref 0), some (.long x), none, some (.int (nI m)), none, none] [] I L P := by
  have hil := hR.1.1
  intro k
  induction k with
  | zero =>
    intro m x I L P hm hf hl hp hn
    have hP := pFr_k hp hP0
    have : m = vNs M := by omega
    subst this
    have e4 := (tR_t hR hf).2.2.2.2.2.1.1
    exact g_X11_trySayings_24 hP ⟨t, by rw [hp 0 2 (by omega)]; exact ht, (il_P hil hP).1, fun _ => kk x I L P hf hl hp hn, fun q => absurd (by rw [e4]; exact nI_le (Nat.le_refl _) (by omega)) q⟩
  | succ k ih =>
    intro m x I L P hm hf hl hp hn
    have hP := pFr_k hp hP0
    have e4 := (tR_t hR hf).2.2.2.2.2.1.1
    refine g_X11_trySayings_24 hP ⟨t, by rw [hp 0 2 (by omega)]; exact ht, (il_P hil hP).1, fun q => absurd q (by rw [e4]; exact nI_ge (by omega) (by omega)), fun _ => ?_⟩
    exact lp_X11_trySayings_38 hP0 hT hR hV hd (by omega) (by omega) (fun x' I' L' P' g1 g2 g3 g4 => ih (m + 1) x' I' L' P' (by omega) g1 g2 g3 g4) (2 ^ m) 0 x I L P (by omega) hf hl hp (nTd_up hn)
theorem sp_X11_trySayings (hP0 : zPk P0) (hT : MT M) (ht : P0 0 2 = some t) (hR : tR M I0 t st b cd) (hV : sV P0 73 85 74 t M I0 po g gn) (hd : 5 ≤ d) (h6 : vNs M ≤ 6) {K : Int64 → zI → zL → zP → Prop}
    (kk : ∀ x I L P, tFr I0 I → cFl [120] L0 L → pFr P0 P → nTd M gn po (vNs M) (2 ^ vNs M) x L → K x I L P) : zMl zm_X11_trySayings d [.ref 0] I0 L0 P0 K := by
  obtain ⟨d, rfl⟩ : ∃ e, d = e + 1 := ⟨d - 1, by omega⟩
  have hN : vN M ≤ 256 := pw8 hR.1.2.1
  refine g_X11_trySayings hP0 (sp_fillL hP0 (fun L1 l1 l2 => ⟨hP0, sp_X6_note (k := 0) (xs := lP po (vN M)) hP0 hV.1.1 hV.1.2.1 (lP_nd _ _) (fun L2 l3 l4 l5 => ?_)⟩))
  refine lp_X11_trySayings_24 (L0 := L0) hP0 hT ht hR hV (by omega) h6 (fun x I L P g1 g2 g3 g4 => ql (kk x I L P g1 g2 g3 g4)) (vNs M) 0 1 I0 L2 P0 (by omega) (fun _ _ => rfl) (fun a ha => (l3 a ha).trans (l1 a ha)) (fun _ _ _ => rfl) ⟨fun s hs => ?_, fun w s hw pw hs => ?_⟩
  · rw [lB1_1 hs]
    exact ⟨fun z => ⟨by omega, po, rfl⟩, fun z => by omega⟩
  · rw [l4 w (lP_mem.mpr ⟨hw, pw⟩), l2 w (by omega), lB1_or _ hs (by decide)]
    exact ⟨fun z => z.elim (fun y => absurd y (lB1_0 hs)) (fun y => ⟨by omega, po, rfl, pw⟩), fun z => Or.inr (by omega)⟩
end FW
