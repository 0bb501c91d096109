/-! ===== the class: fits, sure ===== -/
theorem iS_lt {M : zI} {i : Nat} (h : i < vNs M) : iS M i = fIn M (i + 1) := by unfold iS; rw [if_pos h]
theorem iS_ns (M : zI) : iS M (vNs M) = fIn M 0 := by unfold iS; rw [if_neg (Nat.lt_irrefl _)]
theorem gCt_f (M : zI) (k : Int32) : gCt M k (vNs M + 1) = fCt M k (vNs M + 1) := by
  have : ∀ m, m ≤ vNs M → gCt M k m + cP (fFi M (fIn M 0) k 12) (vN M) = fCt M k (m + 1) := by
    intro m
    induction m with
    | zero =>
      intro _
      show 0 + _ = 0 + _
      rfl
    | succ m ih =>
      intro hm
      have := ih (by omega)
      show gCt M k m + cP (fFi M (iS M m) k 12) (vN M) + _ = fCt M k (m + 1) + cP (fFi M (fIn M (m + 1)) k 12) (vN M)
      rw [iS_lt (by omega)]
      omega
  show gCt M k (vNs M) + cP (fFi M (iS M (vNs M)) k 12) (vN M) = _
  rw [iS_ns]
  exact this _ (Nat.le_refl _)
theorem fMk_bit (S : Nat → Prop) (p : Nat) : ∀ n, ((fMk S p n).testBit 1 = true ↔ ∃ w, w < n ∧ S w ∧ w.testBit p = true) ∧ ((fMk S p n).testBit 0 = true ↔ ∃ w, w < n ∧ S w ∧ w.testBit p = false)
  | 0 => by
    show ((0 : Nat).testBit 1 = true ↔ _) ∧ ((0 : Nat).testBit 0 = true ↔ _)
    exact ⟨⟨fun h => (by simp at h), fun ⟨w, h, _⟩ => absurd h (Nat.not_lt_zero w)⟩, ⟨fun h => (by simp at h), fun ⟨w, h, _⟩ => absurd h (Nat.not_lt_zero w)⟩⟩
  | n + 1 => by
    obtain ⟨h1, h0⟩ := fMk_bit S p n
    have e : fMk S p (n + 1) = fMk S p n ||| (@ite _ (S n) (Classical.propDecidable _) (if n.testBit p = true then 2 else 1) 0) := rfl
    rw [e, Nat.testBit_or, Nat.testBit_or, Bool.or_eq_true, Bool.or_eq_true, h1, h0]
    have b21 : (2 : Nat).testBit 1 = true := by decide
    have b20 : (2 : Nat).testBit 0 = false := by decide
    have b11 : (1 : Nat).testBit 1 = false := by decide
    have b10 : (1 : Nat).testBit 0 = true := by decide
    have b01 : (0 : Nat).testBit 1 = false := by decide
    have b00 : (0 : Nat).testBit 0 = false := by decide
    have sp : ∀ bb : Bool, (∃ w, w < n + 1 ∧ S w ∧ w.testBit p = bb) ↔ (∃ w, w < n ∧ S w ∧ w.testBit p = bb) ∨ (S n ∧ n.testBit p = bb) := by
      intro bb
      constructor
      · rintro ⟨w, h1, h2⟩
        rcases Nat.lt_succ_iff_lt_or_eq.mp h1 with z | z
        · exact Or.inl ⟨w, z, h2⟩
        · subst z; exact Or.inr h2
      · rintro (⟨w, h1, h2⟩ | h)
        · exact ⟨w, by omega, h2⟩
        · exact ⟨n, by omega, h⟩
    rw [sp true, sp false]
    by_cases hs : S n
    · rw [if_pos hs]
      by_cases hb : n.testBit p = true
      · rw [if_pos hb, b21, b20, hb]
        exact ⟨or_congr Iff.rfl ⟨fun _ => ⟨hs, rfl⟩, fun _ => rfl⟩, or_congr Iff.rfl ⟨fun z => (by cases z), fun z => (by cases z.2)⟩⟩
      · have hb' : n.testBit p = false := by simpa using hb
        rw [if_neg hb, b11, b10, hb']
        exact ⟨or_congr Iff.rfl ⟨fun z => (by cases z), fun z => (by cases z.2)⟩, or_congr Iff.rfl ⟨fun _ => ⟨hs, rfl⟩, fun _ => rfl⟩⟩
    · rw [if_neg hs, b01, b00]
      exact ⟨or_congr Iff.rfl ⟨fun z => (by cases z), fun z => absurd z.1 hs⟩, or_congr Iff.rfl ⟨fun z => (by cases z), fun z => absurd z.1 hs⟩⟩
theorem fMs_bit (M : zI) (k : Int32) (p : Nat) : ∀ n, ((fMs M k p n).testBit 1 = true ↔ ∃ s, s < n ∧ ∃ w, w < vN M ∧ fFi M (fIn M s) k 12 w ∧ w.testBit p = true) ∧ ((fMs M k p n).testBit 0 = true ↔ ∃ s, s < n ∧ ∃ w, w < vN M ∧ fFi M (fIn M s) k 12 w ∧ w.testBit p = false)
  | 0 => by
    show ((0 : Nat).testBit 1 = true ↔ _) ∧ ((0 : Nat).testBit 0 = true ↔ _)
    exact ⟨⟨fun h => (by simp at h), fun ⟨w, h, _⟩ => absurd h (Nat.not_lt_zero w)⟩, ⟨fun h => (by simp at h), fun ⟨w, h, _⟩ => absurd h (Nat.not_lt_zero w)⟩⟩
  | n + 1 => by
    obtain ⟨h1, h0⟩ := fMs_bit M k p n
    obtain ⟨g1, g0⟩ := fMk_bit (fFi M (fIn M n) k 12) p (vN M)
    have e : fMs M k p (n + 1) = fMs M k p n ||| fMk (fFi M (fIn M n) k 12) p (vN M) := rfl
    rw [e, Nat.testBit_or, Nat.testBit_or, Bool.or_eq_true, Bool.or_eq_true, h1, h0, g1, g0]
    have sp : ∀ bb : Bool, ((∃ s, s < n ∧ ∃ w, w < vN M ∧ fFi M (fIn M s) k 12 w ∧ w.testBit p = bb) ∨ (∃ w, w < vN M ∧ fFi M (fIn M n) k 12 w ∧ w.testBit p = bb)) ↔ ∃ s, s < n + 1 ∧ ∃ w, w < vN M ∧ fFi M (fIn M s) k 12 w ∧ w.testBit p = bb := by
      intro bb
      constructor
      · rintro (⟨s, h1, h2⟩ | h)
        · exact ⟨s, by omega, h2⟩
        · exact ⟨n, by omega, h⟩
      · rintro ⟨s, h1, h2⟩
        rcases Nat.lt_succ_iff_lt_or_eq.mp h1 with z | z
        · exact Or.inl ⟨s, z, h2⟩
        · subst z; exact Or.inr h2
    exact ⟨sp true, sp false⟩
theorem gHs_f (M : zI) (k : Int32) (p : Nat) (bb : Bool) : gHs M k (vNs M + 1) p bb ↔ ∃ s, s < vNs M + 1 ∧ ∃ w, w < vN M ∧ fFi M (fIn M s) k 12 w ∧ w.testBit p = bb := by
  constructor
  · rintro ⟨i, h1, h2⟩
    by_cases c : i < vNs M
    · rw [iS_lt c] at h2; exact ⟨i + 1, by omega, h2⟩
    · have : i = vNs M := by omega
      subst this
      rw [iS_ns] at h2; exact ⟨0, by omega, h2⟩
  · rintro ⟨s, h1, h2⟩
    cases s with
    | zero => exact ⟨vNs M, by omega, by rw [iS_ns]; exact h2⟩
    | succ i => exact ⟨i, by omega, by rw [iS_lt (by omega)]; exact h2⟩
theorem fCt_0 {M : zI} {k : Int32} {p : Nat} (h : ¬ fCt M k (vNs M + 1) = 0) : gHs M k (vNs M + 1) p true ∨ gHs M k (vNs M + 1) p false := by
  have : ∀ n, ¬ gCt M k n = 0 → gHs M k n p true ∨ gHs M k n p false := by
    intro n
    induction n with
    | zero => intro h; exact absurd rfl h
    | succ n ih =>
      intro h
      by_cases c : gCt M k n = 0
      · have : ¬ cP (fFi M (iS M n) k 12) (vN M) = 0 := fun z => h (by show gCt M k n + cP (fFi M (iS M n) k 12) (vN M) = 0; omega)
        have : ∃ w, w < vN M ∧ fFi M (iS M n) k 12 w := Classical.byContradiction (fun q => this (cP_0.mpr (fun w hw hx => q ⟨w, hw, hx⟩)))
        obtain ⟨w, hw, hx⟩ := this
        cases hb : w.testBit p
        · exact Or.inr ⟨n, by omega, w, hw, hx, hb⟩
        · exact Or.inl ⟨n, by omega, w, hw, hx, hb⟩
      · exact (ih c).imp (fun ⟨i, h1, h2⟩ => ⟨i, by omega, h2⟩) (fun ⟨i, h1, h2⟩ => ⟨i, by omega, h2⟩)
  rw [← gCt_f] at h
  exact this _ h
def gFr (I0 I : zI) : Prop := ∀ a, ¬ (a = 23 ∨ (25 ≤ a ∧ a ≤ 72) ∨ (96 ≤ a ∧ a ≤ 119)) → I a = I0 a
def pGr (P0 P : zP) : Prop := ∀ a k, ¬ (a = 107 ∧ k = 1) → P a k = P0 a k
theorem pGr_u {P0 P : zP} (h : pGr P0 P) (v : Option Nat) : pGr P0 (zuP P 107 1 v) := by
  intro a k hk
  rw [← h a k hk]
  by_cases e : a = 107
  · subst e; rw [zuP_o (fun z => hk ⟨rfl, z⟩)]
  · rw [zuP_ne e]
theorem pGr_k {P0 P : zP} (h : pGr P0 P) (hP : zPk P0) : zPk P := by
  intro a k b hb
  by_cases e : a = 107 ∧ k = 1
  · obtain ⟨rfl, rfl⟩ := e
    rw [zst_s1 (Or.inr (Or.inr (Or.inl ⟨rfl, rfl, rfl⟩)))] at hb; cases hb
  · rw [h a k e]; exact hP a k b hb
theorem gN_c {M I I' : zI} {i c : Nat} (h : gN M I i c) (e : I' c = I c) : gN M I' i c := by unfold gN; rw [e]; exact h
abbrev gw_X11_countFits (d : Nat) (Q : zQt) (pc : Nat) (lv : zV) (st : List Value) (I : zI) (L : zL) (P : zP) : Prop := zW zm_X11_countFits (zRm d 0 0) 0 0 Q pc lv st I L P 205 0 0
abbrev v_X11_countFits_12 (d : Nat) (Q : zQt) (p1 : Int32) (x2 : Int32) (I : zI) (L : zL) (P : zP) : Prop :=
  ∃ b9 : Nat, P 0 2 = some b9 ∧
  (b9 < 205 ∧ (zsh b9).1 = 2) ∧
  (((I b9 4) < x2 →
    ∀ I13 : zI, I13 = zuI I 96 4 1 →
    zMi zm_X1_scan d [.ref 96, .ref b9, .ref 90, .int p1] I13 L P (fun r19 I15 L16 P17 =>
      Q (some (.int r19)) I15 L16 P17 205
    )
  ) ∧ (¬ (I b9 4) < x2 →
    zMv zm_X1_learn d [.ref 96, .ref b9, .int x2, .ref 23] I L P (fun I20 L21 P22 =>
      gw_X11_countFits (d + 1) Q 12 [some (.ref 0), some (.int p1), some (.int (x2 + 1))] [] I20 L21 P22
    )
  ))
set_option maxRecDepth 20000 in
theorem g_X11_countFits_12 {d : Nat} {Q : zQt} {p1 : Int32} {x2 : Int32} {I : zI} {L : zL} {P : zP} (hP : zPk P) (hv : v_X11_countFits_12 d Q p1 x2 I L P) : gw_X11_countFits (d + 1) Q 12 [some (.ref 0), some (.int p1), some (.int x2)] [] I L P := by
  unfold v_X11_countFits_12 at hv
  refine z_iload_n dX11_countFits_12 rfl ?_
  refine z_aload_n dX11_countFits_13 rfl ?_
  obtain ⟨b9, h10, hv⟩ := hv
  refine z_getP dX11_countFits_14 zf_X11_26 zn_0 zo_0 (fun _ _ _ _ _ => rfl) h10 ?_
  obtain ⟨h11, hv⟩ := hv
  refine z_getI dX11_countFits_17 zf_X11_173 h11.1 h11.2 (fun _ _ _ _ _ => rfl) ?_
  refine z_icmp_gt (tgt := 45) dX11_countFits_20 (by decide) (fun q12 => ?_) (fun q12 => ?_)
  · have hv := hv.1 q12
    refine z_aload_n dX11_countFits_45 rfl ?_
    refine z_getP dX11_countFits_46 zf_X11_88 zn_0 zo_0 (fun _ _ _ _ _ => rfl) (hP 0 11 96 zp_0_11) ?_
    refine z_iconst (v := 1) dX11_countFits_49 (by decide) ?_
    refine z_putI dX11_countFits_50 zf_X11_114 zn_96 zo_96 (Or.inl rfl) (fun _ _ _ _ _ => rfl) (by decide) (by decide) (z_nmI (fun I13 e14 => ?_))
    have hv := hv I13 e14
    refine z_aload_n dX11_countFits_53 rfl ?_
    refine z_getP dX11_countFits_54 zf_X11_88 zn_0 zo_0 (fun _ _ _ _ _ => rfl) (hP 0 11 96 zp_0_11) ?_
    refine z_aload_n dX11_countFits_57 rfl ?_
    refine z_getP dX11_countFits_58 zf_X11_26 zn_0 zo_0 (fun _ _ _ _ _ => rfl) h10 ?_
    refine z_aload_n dX11_countFits_61 rfl ?_
    refine z_getP dX11_countFits_62 zf_X11_79 zn_0 zo_0 (fun _ _ _ _ _ => rfl) (hP 0 10 90 zp_0_10) ?_
    refine z_iload_n dX11_countFits_65 rfl ?_
    refine z_callV (As := [.ref b9, .ref 90, .int p1]) (st := []) dX11_countFits_66 zl_X11_276 zv_X1_scan (by decide) rfl zn_96 zo_96 rfl rfl (Nat.le_of_ble_eq_true rfl) ⟨Nat.le_refl _, Nat.le_refl _⟩ ⟨Nat.le_refl _, Nat.le_refl _⟩ hv (fun v1 I15 L16 P17 nx1 q18 => ?_)
    obtain ⟨rfl, r19, rfl, hv⟩ := q18
    exact z_ireturn dX11_countFits_69 rfl rfl (Nat.le_refl _) (Nat.le_refl _) hv
  · have hv := hv.2 q12
    refine z_aload_n dX11_countFits_23 rfl ?_
    refine z_getP dX11_countFits_24 zf_X11_88 zn_0 zo_0 (fun _ _ _ _ _ => rfl) (hP 0 11 96 zp_0_11) ?_
    refine z_aload_n dX11_countFits_27 rfl ?_
    refine z_getP dX11_countFits_28 zf_X11_26 zn_0 zo_0 (fun _ _ _ _ _ => rfl) h10 ?_
    refine z_iload_n dX11_countFits_31 rfl ?_
    refine z_aload_n dX11_countFits_32 rfl ?_
    refine z_getP dX11_countFits_33 zf_X11_45 zn_0 zo_0 (fun _ _ _ _ _ => rfl) (hP 0 5 23 zp_0_5) ?_
    refine z_callV (As := [.ref b9, .int x2, .ref 23]) (st := []) dX11_countFits_36 zl_X11_272 zv_X1_learn (by decide) rfl zn_96 zo_96 rfl rfl (Nat.le_of_ble_eq_true rfl) ⟨Nat.le_refl _, Nat.le_refl _⟩ ⟨Nat.le_refl _, Nat.le_refl _⟩ hv (fun v1 I20 L21 P22 nx1 q23 => ?_)
    obtain ⟨rfl, rfl, hv⟩ := q23
    refine z_iinc (v2 := x2 + 1) (lv2 := [some (.ref 0), some (.int p1), some (.int (x2 + 1))]) dX11_countFits_39 rfl (by rfl) (by decide) rfl rfl ?_
    refine z_goto (tgt := 12) dX11_countFits_42 (by decide) ?_
    exact hv
abbrev v_X11_countFits (d : Nat) (Q : zQt) (p1 : Int32) (I : zI) (L : zL) (P : zP) : Prop :=
  ((¬ (I 96 4) = 0 →
    ∃ b2 : Nat, P 0 2 = some b2 ∧
    zMi zm_X1_scan d [.ref 96, .ref b2, .ref 90, .int p1] I L P (fun r8 I4 L5 P6 =>
      Q (some (.int r8)) I4 L5 P6 205
    )
  ) ∧ ((I 96 4) = 0 →
    gw_X11_countFits (d + 1) Q 12 [some (.ref 0), some (.int p1), some (.int 0)] [] I L P
  ))
set_option maxRecDepth 20000 in
theorem g_X11_countFits {d : Nat} {Q : zQt} {p1 : Int32} {I : zI} {L : zL} {P : zP} (hP : zPk P) (hv : v_X11_countFits d Q p1 I L P) : zM zm_X11_countFits (d + 1) 0 0 [.ref 0, .int p1] I L P 205 Q := by
  unfold v_X11_countFits at hv
  refine zM_of (lv0 := [some (.ref 0), some (.int p1), none]) (by decide +kernel) (Nat.le_of_ble_eq_true rfl) rfl ?_
  refine z_aload_n dX11_countFits_0 rfl ?_
  refine z_getP dX11_countFits_1 zf_X11_88 zn_0 zo_0 (fun _ _ _ _ _ => rfl) (hP 0 11 96 zp_0_11) ?_
  refine z_getI dX11_countFits_4 zf_X11_114 zn_96 zo_96 (fun _ _ _ _ _ => rfl) ?_
  refine z_if_ne (tgt := 53) dX11_countFits_7 (by decide) (fun q1 => ?_) (fun q1 => ?_)
  · have hv := hv.1 q1
    refine z_aload_n dX11_countFits_53 rfl ?_
    refine z_getP dX11_countFits_54 zf_X11_88 zn_0 zo_0 (fun _ _ _ _ _ => rfl) (hP 0 11 96 zp_0_11) ?_
    refine z_aload_n dX11_countFits_57 rfl ?_
    obtain ⟨b2, h3, hv⟩ := hv
    refine z_getP dX11_countFits_58 zf_X11_26 zn_0 zo_0 (fun _ _ _ _ _ => rfl) h3 ?_
    refine z_aload_n dX11_countFits_61 rfl ?_
    refine z_getP dX11_countFits_62 zf_X11_79 zn_0 zo_0 (fun _ _ _ _ _ => rfl) (hP 0 10 90 zp_0_10) ?_
    refine z_iload_n dX11_countFits_65 rfl ?_
    refine z_callV (As := [.ref b2, .ref 90, .int p1]) (st := []) dX11_countFits_66 zl_X11_276 zv_X1_scan (by decide) rfl zn_96 zo_96 rfl rfl (Nat.le_of_ble_eq_true rfl) ⟨Nat.le_refl _, Nat.le_refl _⟩ ⟨Nat.le_refl _, Nat.le_refl _⟩ hv (fun v1 I4 L5 P6 nx1 q7 => ?_)
    obtain ⟨rfl, r8, rfl, hv⟩ := q7
    exact z_ireturn dX11_countFits_69 rfl rfl (Nat.le_refl _) (Nat.le_refl _) hv
  · have hv := hv.2 q1
    refine z_iconst (v := 0) dX11_countFits_10 (by decide) ?_
    refine z_istore_n (lv2 := [some (.ref 0), some (.int p1), some (.int 0)]) dX11_countFits_11 (by decide) rfl rfl ?_
    exact hv
/-- what is known of the guesses -/
def gK (M I : zI) : Prop := ¬ I 96 4 = 0 → vNp M ≤ 6 → ∀ i, i ≤ vNs M → gN M I i (98 + i)
theorem sp_X11_countFits {d : Nat} {M I : zI} {L : zL} {P : zP} {t st : Nat} {b : Nat → Nat} {cd : Nat → Cd} {k : Int32} (hP : zPk P) (hB : MB M) (h6 : vNp M ≤ 6) (hns : vNs M ≤ 6) (ht : P 0 2 = some t) (hR : tR M I t st b cd) (hs : sgR M I) (hg : gK M I) (hd : 6 ≤ d) {K : Int32 → zI → zL → zP → Prop}
    (kk : ∀ I' P', gFr I I' → pGr P P' → gK M I' → (∀ p, p < 8 → (ib (I' 96 5) p ↔ gHs M k (vNs M + 1) p true)) → (∀ p, p < 8 → (ib (I' 96 6) p ↔ gHs M k (vNs M + 1) p false)) → K (nI (fCt M k (vNs M + 1))) I' L P') : zMi zm_X11_countFits d [.ref 0, .int k] I L P K := by
  obtain ⟨d, rfl⟩ : ∃ e, d = e + 1 := ⟨d - 1, by omega⟩
  have hil := hR.1.1
  have hil2 := hil
  unfold il at hil2
  rw [← gCt_f] at kk
  have fin : ∀ J PP, gFr I J → pGr P PP → (∀ i, i ≤ vNs M → gN M J i (98 + i)) → ∀ K2 : Int32 → zI → zL → zP → Prop, (∀ r I' L' P', K r I' L' P' → K2 r I' L' P') → zMi zm_X1_scan d [.ref 96, .ref t, .ref 90, .int k] J L PP K2 := by
    intro J PP hf hp hgn K2 hK2
    refine sp_X1_scan (pGr_k hp hP) h6 hns (tR_c hR (fun a h1 h2 => hf a (by omega))) (sgR_c hs (fun a h1 h2 => hf a (by omega))) hgn (by omega) (fun I' f1 f2 f3 f4 => hK2 _ _ _ _ (kk I' PP (fun a ha => by rw [f1 a (by simp only [List.mem_cons, List.not_mem_nil, or_false]; omega)]; exact hf a ha) hp (fun _ _ i hi => gN_c (hgn i hi) (f1 (98 + i) (by simp only [List.mem_cons, List.not_mem_nil, or_false]; omega))) f3 f4))
  refine g_X11_countFits hP ⟨fun q => ⟨t, ht, fin I P (fun _ _ => rfl) (fun _ _ _ => rfl) (hg q h6) _ (fun r I' L' P' h => qi h)⟩, fun q => ?_⟩
  have key : ∀ m i J PP, i + m = vNs M + 1 → gFr I J → pGr P PP → (∀ j, j < i → gN M J j (98 + j)) → gw_X11_countFits (d + 1) (fun v I' L' P' nx' => nx' = 205 ∧ ∃ r, v = some (.int r) ∧ K r I' L' P') 12 [some (.ref 0), some (.int k), some (.int (nI i))] [] J L PP := by
    intro m
    induction m with
    | zero =>
      intro i J PP hi hf hp hj
      have hP1 := pGr_k hp hP
      have e4 : J t 4 = nI (vNs M) := by rw [hf t (by omega)]; exact hR.2.2.2.2.2.1.1
      refine g_X11_countFits_12 hP1 ⟨t, by rw [hp 0 2 (by omega)]; exact ht, (il_P hil hP1).1, fun _ J1 e1 => ?_, fun z => absurd (by rw [e4]; exact nI_lt (by omega) (by omega)) z⟩
      subst e1
      exact fin _ PP (fun a ha => by rw [zuI_ne (by omega)]; exact hf a ha) hp (fun j hjj => gN_c (hj j (by omega)) (zuI_ne (by omega))) _ (fun r I' L' P' h => qi h)
    | succ m ih =>
      intro i J PP hi hf hp hj
      have hP1 := pGr_k hp hP
      have hR1 : tR M J t st b cd := tR_c hR (fun a h1 h2 => hf a (by omega))
      have e4 : J t 4 = nI (vNs M) := hR1.2.2.2.2.2.1.1
      refine g_X11_countFits_12 hP1 ⟨t, by rw [hp 0 2 (by omega)]; exact ht, (il_P hil hP1).1, fun z => absurd z (by rw [e4]; exact nI_nlt (by omega) (by omega)), fun _ => ?_⟩
      refine sp_X1_learn hP1 hB h6 hR1 (by omega) hns (by omega) (fun J1 f1 f2 => ?_)
      rw [nI_1]
      refine ih (i + 1) J1 _ (by omega) (fun a ha => by rw [f1 a (by omega)]; exact hf a ha) (pGr_u hp _) (fun j hjj => ?_)
      rcases Nat.lt_succ_iff_lt_or_eq.mp hjj with z | z
      · exact gN_c (hj j z) (f1 (98 + j) (by omega))
      · subst z; exact f2
  exact key (vNs M + 1) 0 I P (by omega) (fun _ _ => rfl) (fun _ _ _ => rfl) (fun j hj => absurd hj (Nat.not_lt_zero j))
abbrev gw_X11_fits (d : Nat) (Q : zQt) (pc : Nat) (lv : zV) (st : List Value) (I : zI) (L : zL) (P : zP) : Prop := zW zm_X11_fits (zRm d 0 0) 0 0 Q pc lv st I L P 205 0 0
abbrev v_X11_fits (d : Nat) (Q : zQt) (p1 : Int32) (I : zI) (L : zL) (P : zP) : Prop :=
  ∃ b1 : Nat, P 0 2 = some b1 ∧
  (b1 < 205 ∧ (zsh b1).1 = 2) ∧
  (((I b1 0) ≤ 6 →
    zMi zm_X11_countFits d [.ref 0, .int p1] I L P (fun r9 I5 L6 P7 =>
      Q (some (.int r9)) I5 L6 P7 205
    )
  ) ∧ (¬ (I b1 0) ≤ 6 →
    Q (some (.int (-2))) I L P 205
  ))
set_option maxRecDepth 20000 in
theorem g_X11_fits {d : Nat} {Q : zQt} {p1 : Int32} {I : zI} {L : zL} {P : zP} (hP : zPk P) (hv : v_X11_fits d Q p1 I L P) : zM zm_X11_fits (d + 1) 0 0 [.ref 0, .int p1] I L P 205 Q := by
  unfold v_X11_fits at hv
  refine zM_of (lv0 := [some (.ref 0), some (.int p1)]) (by decide +kernel) (Nat.le_of_ble_eq_true rfl) rfl ?_
  refine z_aload_n dX11_fits_0 rfl ?_
  obtain ⟨b1, h2, hv⟩ := hv
  refine z_getP dX11_fits_1 zf_X11_26 zn_0 zo_0 (fun _ _ _ _ _ => rfl) h2 ?_
  obtain ⟨h3, hv⟩ := hv
  refine z_getI dX11_fits_4 zf_X11_118 h3.1 h3.2 (fun _ _ _ _ _ => rfl) ?_
  refine z_bipush (v := 6) dX11_fits_7 (by decide) ?_
  refine z_icmp_le (tgt := 15) dX11_fits_9 (by decide) (fun q4 => ?_) (fun q4 => ?_)
  · have hv := hv.1 q4
    refine z_aload_n dX11_fits_15 rfl ?_
    refine z_iload_n dX11_fits_16 rfl ?_
    refine z_callV (As := [.int p1]) (st := []) dX11_fits_17 zl_X11_226 zv_X11_countFits (by decide) rfl zn_0 zo_0 rfl rfl (Nat.le_of_ble_eq_true rfl) ⟨Nat.le_refl _, Nat.le_refl _⟩ ⟨Nat.le_refl _, Nat.le_refl _⟩ hv (fun v1 I5 L6 P7 nx1 q8 => ?_)
    obtain ⟨rfl, r9, rfl, hv⟩ := q8
    exact z_ireturn dX11_fits_20 rfl rfl (Nat.le_refl _) (Nat.le_refl _) hv
  · have hv := hv.2 q4
    refine z_bipush (v := (-2)) dX11_fits_12 (by decide) ?_
    exact z_ireturn dX11_fits_14 rfl rfl (Nat.le_refl _) (Nat.le_refl _) hv
theorem sp_X11_fits {d : Nat} {M I : zI} {L : zL} {P : zP} {t st : Nat} {b : Nat → Nat} {cd : Nat → Cd} {k : Int32} (hP : zPk P) (hB : MB M) (hns : vNs M ≤ 6) (ht : P 0 2 = some t) (hR : tR M I t st b cd) (hs : sgR M I) (hg : gK M I) (hd : 7 ≤ d) {K : Int32 → zI → zL → zP → Prop}
    (k0 : ¬ vNp M ≤ 6 → K (-2) I L P) (kk : vNp M ≤ 6 → ∀ I' P', gFr I I' → pGr P P' → gK M I' → K (nI (fCt M k (vNs M + 1))) I' L P') : zMi zm_X11_fits d [.ref 0, .int k] I L P K := by
  obtain ⟨d, rfl⟩ : ∃ e, d = e + 1 := ⟨d - 1, by omega⟩
  have hnp := hR.1.2.1
  have z6 : I t 0 ≤ 6 ↔ vNp M ≤ 6 := by rw [hR.1.2.2, show (6 : Int32) = nI 6 from rfl, nI_leI (by omega) (by decide)]
  refine g_X11_fits hP ⟨t, ht, (il_P hR.1.1 hP).1, fun q => ?_, fun q => qi (k0 (fun z => q (z6.mpr z)))⟩
  exact sp_X11_countFits hP hB (z6.mp q) hns ht hR hs hg (by omega) (fun I' P' f1 f2 f3 _ _ => qi (kk (z6.mp q) I' P' f1 f2 f3))
abbrev gw_X11_sure (d : Nat) (Q : zQt) (pc : Nat) (lv : zV) (st : List Value) (I : zI) (L : zL) (P : zP) : Prop := zW zm_X11_sure (zRm d 0 0) 0 0 Q pc lv st I L P 205 0 0
abbrev v_X11_sure (d : Nat) (Q : zQt) (p1 : Int32) (p2 : Int32) (I : zI) (L : zL) (P : zP) : Prop :=
  ∃ b1 : Nat, P 0 2 = some b1 ∧
  (b1 < 205 ∧ (zsh b1).1 = 2) ∧
  il b1 ∧
  vp_in (I b1 0) 9 ∧
  ((¬ (bP (vp_in p1 (I b1 0).toNatClampNeg)) = 0 →
    (((I b1 0) ≤ 6 →
      zMi zm_X11_countFits d [.ref 0, .int p2] I L P (fun r14 I10 L11 P12 =>
        ((¬ r14 = 0 →
          zPk P12 ∧
          ((¬ (((I10 96 5) >>> (p1 &&& 31) : Int32) &&& 1 : Int32) = 1 →
            ((¬ (((I10 96 6) >>> (p1 &&& 31) : Int32) &&& 1 : Int32) = 1 →
              (((0 : Int32) = 0 →
                Q (some (.int 0)) I10 L11 P12 205
              ) ∧ (¬ (0 : Int32) = 0 →
                Q (some (.int (-2))) I10 L11 P12 205
              ))
            ) ∧ ((((I10 96 6) >>> (p1 &&& 31) : Int32) &&& 1 : Int32) = 1 →
              (((0 : Int32) = 0 →
                Q (some (.int 0)) I10 L11 P12 205
              ) ∧ (¬ (0 : Int32) = 0 →
                (((1 : Int32) = 0 →
                  Q (some (.int 1)) I10 L11 P12 205
                ) ∧ (¬ (1 : Int32) = 0 →
                  Q (some (.int (-2))) I10 L11 P12 205
                ))
              ))
            ))
          ) ∧ ((((I10 96 5) >>> (p1 &&& 31) : Int32) &&& 1 : Int32) = 1 →
            ((¬ (((I10 96 6) >>> (p1 &&& 31) : Int32) &&& 1 : Int32) = 1 →
              (((1 : Int32) = 0 →
                Q (some (.int 0)) I10 L11 P12 205
              ) ∧ (¬ (1 : Int32) = 0 →
                (((0 : Int32) = 0 →
                  Q (some (.int 1)) I10 L11 P12 205
                ) ∧ (¬ (0 : Int32) = 0 →
                  Q (some (.int (-2))) I10 L11 P12 205
                ))
              ))
            ) ∧ ((((I10 96 6) >>> (p1 &&& 31) : Int32) &&& 1 : Int32) = 1 →
              (((1 : Int32) = 0 →
                Q (some (.int 0)) I10 L11 P12 205
              ) ∧ (¬ (1 : Int32) = 0 →
                Q (some (.int (-2))) I10 L11 P12 205
              ))
            ))
          ))
        ) ∧ (r14 = 0 →
          Q (some (.int (-1))) I10 L11 P12 205
        ))
      )
    ) ∧ (¬ (I b1 0) ≤ 6 →
      Q (some (.int (-3))) I L P 205
    ))
  ) ∧ ((bP (vp_in p1 (I b1 0).toNatClampNeg)) = 0 →
    Q (some (.int (-1))) I L P 205
  ))
set_option maxRecDepth 20000 in
theorem g_X11_sure {d : Nat} {Q : zQt} {p1 : Int32} {p2 : Int32} {I : zI} {L : zL} {P : zP} (hP : zPk P) (hv : v_X11_sure d Q p1 p2 I L P) : zM zm_X11_sure (d + 1) 0 0 [.ref 0, .int p1, .int p2] I L P 205 Q := by
  unfold v_X11_sure at hv
  refine zM_of (lv0 := [some (.ref 0), some (.int p1), some (.int p2), none, none]) (by decide +kernel) (Nat.le_of_ble_eq_true rfl) rfl ?_
  refine z_aload_n dX11_sure_0 rfl ?_
  obtain ⟨b1, h2, hv⟩ := hv
  refine z_getP dX11_sure_1 zf_X11_26 zn_0 zo_0 (fun _ _ _ _ _ => rfl) h2 ?_
  refine z_iload_n dX11_sure_4 rfl ?_
  obtain ⟨h3, hv⟩ := hv
  obtain ⟨h4, hv⟩ := hv
  obtain ⟨h5, hv⟩ := hv
  refine z_callV (As := [.int p1]) (st := []) dX11_sure_5 zl_X11_127 zv_X2_isPerson (by decide) rfl h3.1 h3.2 rfl rfl (Nat.le_of_ble_eq_true rfl) ⟨Nat.le_refl _, Nat.le_refl _⟩ ⟨Nat.le_refl _, Nat.le_refl _⟩ (sp_X2_isPerson hP h4 h5 (K := fun r I' L' P' => bP (vp_in p1 (I b1 0).toNatClampNeg) = r ∧ I = I' ∧ L = L' ∧ P = P') ⟨rfl, rfl, rfl, rfl⟩) (fun v1 I2 L2 P2 nx1 q7 => ?_)
  obtain ⟨rfl, r6, rfl, rfl, rfl, rfl, rfl⟩ := q7
  refine z_if_ne (tgt := 13) dX11_sure_8 (by decide) (fun q8 => ?_) (fun q8 => ?_)
  · have hv := hv.1 q8
    refine z_aload_n dX11_sure_13 rfl ?_
    refine z_getP dX11_sure_14 zf_X11_26 zn_0 zo_0 (fun _ _ _ _ _ => rfl) h2 ?_
    refine z_getI dX11_sure_17 zf_X11_118 h3.1 h3.2 (fun _ _ _ _ _ => rfl) ?_
    refine z_bipush (v := 6) dX11_sure_20 (by decide) ?_
    refine z_icmp_le (tgt := 28) dX11_sure_22 (by decide) (fun q9 => ?_) (fun q9 => ?_)
    · have hv := hv.1 q9
      refine z_aload_n dX11_sure_28 rfl ?_
      refine z_iload_n dX11_sure_29 rfl ?_
      refine z_callV (As := [.int p2]) (st := []) dX11_sure_30 zl_X11_226 zv_X11_countFits (by decide) rfl zn_0 zo_0 rfl rfl (Nat.le_of_ble_eq_true rfl) ⟨Nat.le_refl _, Nat.le_refl _⟩ ⟨Nat.le_refl _, Nat.le_refl _⟩ hv (fun v1 I10 L11 P12 nx1 q13 => ?_)
      obtain ⟨rfl, r14, rfl, hv⟩ := q13
      refine z_if_ne (tgt := 38) dX11_sure_33 (by decide) (fun q15 => ?_) (fun q15 => ?_)
      · have hv := hv.1 q15
        refine z_aload_n dX11_sure_38 rfl ?_
        obtain ⟨h16, hv⟩ := hv
        refine z_getP dX11_sure_39 zf_X11_88 zn_0 zo_0 (fun _ _ _ _ _ => rfl) (h16 0 11 96 zp_0_11) ?_
        refine z_getI dX11_sure_42 zf_X11_229 zn_96 zo_96 (fun _ _ _ _ _ => rfl) ?_
        refine z_iload_n dX11_sure_45 rfl ?_
        refine z_ishr dX11_sure_46 ?_
        refine z_iconst (v := 1) dX11_sure_47 (by decide) ?_
        refine z_iand dX11_sure_48 ?_
        refine z_iconst (v := 1) dX11_sure_49 (by decide) ?_
        refine z_icmp_ne (tgt := 57) dX11_sure_50 (by decide) (fun q17 => ?_) (fun q17 => ?_)
        · have hv := hv.1 q17
          refine z_iconst (v := 0) dX11_sure_57 (by decide) ?_
          refine z_istore_n (lv2 := [some (.ref 0), some (.int p1), some (.int p2), some (.int 0), none]) dX11_sure_58 (by decide) rfl rfl ?_
          refine z_aload_n dX11_sure_59 rfl ?_
          refine z_getP dX11_sure_60 zf_X11_88 zn_0 zo_0 (fun _ _ _ _ _ => rfl) (h16 0 11 96 zp_0_11) ?_
          refine z_getI dX11_sure_63 zf_X11_232 zn_96 zo_96 (fun _ _ _ _ _ => rfl) ?_
          refine z_iload_n dX11_sure_66 rfl ?_
          refine z_ishr dX11_sure_67 ?_
          refine z_iconst (v := 1) dX11_sure_68 (by decide) ?_
          refine z_iand dX11_sure_69 ?_
          refine z_iconst (v := 1) dX11_sure_70 (by decide) ?_
          refine z_icmp_ne (tgt := 78) dX11_sure_71 (by decide) (fun q18 => ?_) (fun q18 => ?_)
          · have hv := hv.1 q18
            refine z_iconst (v := 0) dX11_sure_78 (by decide) ?_
            refine z_istore (lv2 := [some (.ref 0), some (.int p1), some (.int p2), some (.int 0), some (.int 0)]) dX11_sure_79 (by decide) rfl rfl ?_
            refine z_iload_n dX11_sure_81 rfl ?_
            refine z_if_eq (tgt := 93) dX11_sure_82 (by decide) (fun q19 => ?_) (fun q19 => ?_)
            · have hv := hv.1 q19
              refine z_iload_n dX11_sure_93 rfl ?_
              refine z_if_eq (tgt := 101) dX11_sure_94 (by decide) (fun q20 => ?_) (fun q20 => ?_)
              · skip
                refine z_iconst (v := 0) dX11_sure_101 (by decide) ?_
                exact z_ireturn dX11_sure_102 rfl rfl (Nat.le_refl _) (Nat.le_refl _) hv
              · exact absurd q19 q20
            · have hv := hv.2 q19
              refine z_iload dX11_sure_85 rfl ?_
              refine z_if_eq (tgt := 93) dX11_sure_87 (by decide) (fun q21 => ?_) (fun q21 => ?_)
              · exact absurd q21 q19
              · skip
                refine z_bipush (v := (-2)) dX11_sure_90 (by decide) ?_
                exact z_ireturn dX11_sure_92 rfl rfl (Nat.le_refl _) (Nat.le_refl _) hv
          · have hv := hv.2 q18
            refine z_iconst (v := 1) dX11_sure_74 (by decide) ?_
            refine z_goto (tgt := 79) dX11_sure_75 (by decide) ?_
            refine z_istore (lv2 := [some (.ref 0), some (.int p1), some (.int p2), some (.int 0), some (.int 1)]) dX11_sure_79 (by decide) rfl rfl ?_
            refine z_iload_n dX11_sure_81 rfl ?_
            refine z_if_eq (tgt := 93) dX11_sure_82 (by decide) (fun q22 => ?_) (fun q22 => ?_)
            · have hv := hv.1 q22
              refine z_iload_n dX11_sure_93 rfl ?_
              refine z_if_eq (tgt := 101) dX11_sure_94 (by decide) (fun q23 => ?_) (fun q23 => ?_)
              · skip
                refine z_iconst (v := 0) dX11_sure_101 (by decide) ?_
                exact z_ireturn dX11_sure_102 rfl rfl (Nat.le_refl _) (Nat.le_refl _) hv
              · exact absurd q22 q23
            · have hv := hv.2 q22
              refine z_iload dX11_sure_85 rfl ?_
              refine z_if_eq (tgt := 93) dX11_sure_87 (by decide) (fun q24 => ?_) (fun q24 => ?_)
              · have hv := hv.1 q24
                refine z_iload_n dX11_sure_93 rfl ?_
                refine z_if_eq (tgt := 101) dX11_sure_94 (by decide) (fun q25 => ?_) (fun q25 => ?_)
                · exact absurd q25 q22
                · skip
                  refine z_iconst (v := 1) dX11_sure_97 (by decide) ?_
                  refine z_goto (tgt := 102) dX11_sure_98 (by decide) ?_
                  exact z_ireturn dX11_sure_102 rfl rfl (Nat.le_refl _) (Nat.le_refl _) hv
              · have hv := hv.2 q24
                refine z_bipush (v := (-2)) dX11_sure_90 (by decide) ?_
                exact z_ireturn dX11_sure_92 rfl rfl (Nat.le_refl _) (Nat.le_refl _) hv
        · have hv := hv.2 q17
          refine z_iconst (v := 1) dX11_sure_53 (by decide) ?_
          refine z_goto (tgt := 58) dX11_sure_54 (by decide) ?_
          refine z_istore_n (lv2 := [some (.ref 0), some (.int p1), some (.int p2), some (.int 1), none]) dX11_sure_58 (by decide) rfl rfl ?_
          refine z_aload_n dX11_sure_59 rfl ?_
          refine z_getP dX11_sure_60 zf_X11_88 zn_0 zo_0 (fun _ _ _ _ _ => rfl) (h16 0 11 96 zp_0_11) ?_
          refine z_getI dX11_sure_63 zf_X11_232 zn_96 zo_96 (fun _ _ _ _ _ => rfl) ?_
          refine z_iload_n dX11_sure_66 rfl ?_
          refine z_ishr dX11_sure_67 ?_
          refine z_iconst (v := 1) dX11_sure_68 (by decide) ?_
          refine z_iand dX11_sure_69 ?_
          refine z_iconst (v := 1) dX11_sure_70 (by decide) ?_
          refine z_icmp_ne (tgt := 78) dX11_sure_71 (by decide) (fun q26 => ?_) (fun q26 => ?_)
          · have hv := hv.1 q26
            refine z_iconst (v := 0) dX11_sure_78 (by decide) ?_
            refine z_istore (lv2 := [some (.ref 0), some (.int p1), some (.int p2), some (.int 1), some (.int 0)]) dX11_sure_79 (by decide) rfl rfl ?_
            refine z_iload_n dX11_sure_81 rfl ?_
            refine z_if_eq (tgt := 93) dX11_sure_82 (by decide) (fun q27 => ?_) (fun q27 => ?_)
            · have hv := hv.1 q27
              refine z_iload_n dX11_sure_93 rfl ?_
              refine z_if_eq (tgt := 101) dX11_sure_94 (by decide) (fun q28 => ?_) (fun q28 => ?_)
              · skip
                refine z_iconst (v := 0) dX11_sure_101 (by decide) ?_
                exact z_ireturn dX11_sure_102 rfl rfl (Nat.le_refl _) (Nat.le_refl _) hv
              · exact absurd q27 q28
            · have hv := hv.2 q27
              refine z_iload dX11_sure_85 rfl ?_
              refine z_if_eq (tgt := 93) dX11_sure_87 (by decide) (fun q29 => ?_) (fun q29 => ?_)
              · have hv := hv.1 q29
                refine z_iload_n dX11_sure_93 rfl ?_
                refine z_if_eq (tgt := 101) dX11_sure_94 (by decide) (fun q30 => ?_) (fun q30 => ?_)
                · exact absurd q30 q27
                · skip
                  refine z_iconst (v := 1) dX11_sure_97 (by decide) ?_
                  refine z_goto (tgt := 102) dX11_sure_98 (by decide) ?_
                  exact z_ireturn dX11_sure_102 rfl rfl (Nat.le_refl _) (Nat.le_refl _) hv
              · have hv := hv.2 q29
                refine z_bipush (v := (-2)) dX11_sure_90 (by decide) ?_
                exact z_ireturn dX11_sure_92 rfl rfl (Nat.le_refl _) (Nat.le_refl _) hv
          · have hv := hv.2 q26
            refine z_iconst (v := 1) dX11_sure_74 (by decide) ?_
            refine z_goto (tgt := 79) dX11_sure_75 (by decide) ?_
            refine z_istore (lv2 := [some (.ref 0), some (.int p1), some (.int p2), some (.int 1), some (.int 1)]) dX11_sure_79 (by decide) rfl rfl ?_
            refine z_iload_n dX11_sure_81 rfl ?_
            refine z_if_eq (tgt := 93) dX11_sure_82 (by decide) (fun q31 => ?_) (fun q31 => ?_)
            · have hv := hv.1 q31
              refine z_iload_n dX11_sure_93 rfl ?_
              refine z_if_eq (tgt := 101) dX11_sure_94 (by decide) (fun q32 => ?_) (fun q32 => ?_)
              · skip
                refine z_iconst (v := 0) dX11_sure_101 (by decide) ?_
                exact z_ireturn dX11_sure_102 rfl rfl (Nat.le_refl _) (Nat.le_refl _) hv
              · exact absurd q31 q32
            · have hv := hv.2 q31
              refine z_iload dX11_sure_85 rfl ?_
              refine z_if_eq (tgt := 93) dX11_sure_87 (by decide) (fun q33 => ?_) (fun q33 => ?_)
              · exact absurd q33 q31
              · skip
                refine z_bipush (v := (-2)) dX11_sure_90 (by decide) ?_
                exact z_ireturn dX11_sure_92 rfl rfl (Nat.le_refl _) (Nat.le_refl _) hv
      · have hv := hv.2 q15
        refine z_iconst (v := (-1)) dX11_sure_36 (by decide) ?_
        exact z_ireturn dX11_sure_37 rfl rfl (Nat.le_refl _) (Nat.le_refl _) hv
    · have hv := hv.2 q9
      refine z_bipush (v := (-3)) dX11_sure_25 (by decide) ?_
      exact z_ireturn dX11_sure_27 rfl rfl (Nat.le_refl _) (Nat.le_refl _) hv
  · have hv := hv.2 q8
    refine z_iconst (v := (-1)) dX11_sure_11 (by decide) ?_
    exact z_ireturn dX11_sure_12 rfl rfl (Nat.le_refl _) (Nat.le_refl _) hv
theorem sp_X11_sure {d : Nat} {M I : zI} {L : zL} {P : zP} {t st : Nat} {b : Nat → Nat} {cd : Nat → Cd} {x k : Int32} (hP : zPk P) (hB : MB M) (hns : vNs M ≤ 6) (ht : P 0 2 = some t) (hR : tR M I t st b cd) (hs : sgR M I) (hg : gK M I) (hd : 7 ≤ d) {K : Int32 → zI → zL → zP → Prop}
    (k0 : ¬ vp_in x (vNp M) → K (-1) I L P) (k1 : vp_in x (vNp M) → ¬ vNp M ≤ 6 → K (-3) I L P) (kk : ∀ p, p < vNp M → x = nI p → vNp M ≤ 6 → ∀ I' P', gFr I I' → pGr P P' → gK M I' → K (fSu (fCt M k (vNs M + 1)) (fMs M k p (vNs M + 1))) I' L P') : zMi zm_X11_sure d [.ref 0, .int x, .int k] I L P K := by
  obtain ⟨d, rfl⟩ : ∃ e, d = e + 1 := ⟨d - 1, by omega⟩
  have hnp := hR.1.2.1
  have h0 := hR.1.2.2
  have z6 : nI (vNp M) ≤ 6 ↔ vNp M ≤ 6 := by rw [show (6 : Int32) = nI 6 from rfl, nI_leI (by omega) (by decide)]
  refine g_X11_sure hP ⟨t, ht, (il_P hR.1.1 hP).1, hR.1.1, by rw [h0]; exact nx_in (by omega) (by decide), ?_⟩
  rw [h0, nI_cl (by omega), z6]
  refine ⟨fun q => ?_, fun q => qi (k0 (bP_0.mp q))⟩
  rw [bP_n] at q
  refine ⟨fun q2 => ?_, fun q2 => qi (k1 q q2)⟩
  obtain ⟨p, hp, rfl⟩ := vp_in_of q (by omega)
  have hN := vN_64 q2
  refine sp_X11_countFits hP hB q2 hns ht hR hs hg (by omega) (fun I' P' f1 f2 f3 f4 f5 => ?_)
  have hP1 := pGr_k f2 hP
  have key := kk p hp rfl q2 I' P' f1 f2 f3
  have hc : fCt M k (vNs M + 1) < 2 ^ 31 := by
    have := fCt_le M k (vNs M + 1)
    have : (vNs M + 1) * vN M ≤ 7 * 64 := Nat.mul_le_mul (by omega) hN
    omega
  have hm := fMs_lt M k p (vNs M + 1)
  obtain ⟨m1, m0⟩ := fMs_bit M k p (vNs M + 1)
  rw [← gHs_f] at m1 m0
  have w5 := f4 p (by omega)
  have w6 := f5 p (by omega)
  unfold ib at w5 w6
  rw [← m1] at w5
  rw [← m0] at w6
  have tab : ∀ m, m < 4 → (m = 0 ↔ ¬ m.testBit 1 = true ∧ ¬ m.testBit 0 = true) ∧ (m = 1 ↔ ¬ m.testBit 1 = true ∧ m.testBit 0 = true) ∧ (m = 2 ↔ m.testBit 1 = true ∧ ¬ m.testBit 0 = true) ∧ (m = 3 ↔ m.testBit 1 = true ∧ m.testBit 0 = true) := by decide
  obtain ⟨t0, t1, t2, t3⟩ := tab _ hm
  rw [nI_zero hc]
  refine ⟨fun q3 => ⟨hP1, fun q5 => ⟨fun q6 => ⟨fun _ => qi ?_, fun z => absurd rfl z⟩, fun q6 => ⟨fun _ => qi ?_, fun z => absurd rfl z⟩⟩, fun q5 => ⟨fun q6 => ⟨fun z => absurd z (by decide), fun _ => ⟨fun _ => qi ?_, fun z => absurd rfl z⟩⟩, fun q6 => ⟨fun z => absurd z (by decide), fun _ => qi ?_⟩⟩⟩, fun q3 => qi ?_⟩
  · rw [w5] at q5; rw [w6] at q6
    exfalso
    rcases fCt_0 (p := p) q3 with z | z
    · exact q5 (m1.mpr z)
    · exact q6 (m0.mpr z)
  · rw [w5] at q5; rw [w6] at q6
    have e := t1.mpr ⟨q5, q6⟩
    unfold fSu at key
    rw [if_neg q3, if_neg (by omega), e] at key
    exact key
  · rw [w5] at q5; rw [w6] at q6
    have e := t2.mpr ⟨q5, q6⟩
    unfold fSu at key
    rw [if_neg q3, if_neg (by omega), e] at key
    exact key
  · rw [w5] at q5; rw [w6] at q6
    have e := t3.mpr ⟨q5, q6⟩
    unfold fSu at key
    rw [if_neg q3, if_pos e] at key
    exact key
  · unfold fSu at key
    rw [if_pos q3] at key
    exact key
