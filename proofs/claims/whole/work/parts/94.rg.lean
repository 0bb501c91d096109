/-! ===== the class: lines of an island ===== -/
theorem aAdd_e1 (A : Ai) (v : Int64) (a b c x : Nat) : aU (aAdd A v a b c) 1 x = aAdd A v x b c := by
  unfold aAdd aU aWn
  refine Prod.ext ?_ rfl
  funext j
  show (if j = 1 then x else _) = _
  by_cases h : j = 1
  · subst h
    simp
    rw [if_neg (by omega), if_neg (by omega)]
  · simp [h]
theorem aAdd_e2 (A : Ai) (v : Int64) (a b c x : Nat) (h8 : A.1 0 < 8) : aU (aAdd A v a b c) (10 + A.1 0) x = aAdd A v a x c := by
  unfold aAdd aU aWn
  refine Prod.ext ?_ rfl
  funext j
  show (if j = 10 + A.1 0 then x else _) = _
  by_cases h : j = 10 + A.1 0
  · have h1 : j ≠ 0 := by omega
    have h2 : j ≠ 20 + A.1 0 := by omega
    simp only [h, if_true]
    rw [if_neg (by omega), if_neg (by omega)]
  · simp [h]
theorem aAdd_e3 (A : Ai) (v : Int64) (a b c x : Nat) (h8 : A.1 0 < 8) : aU (aAdd A v a b c) (20 + A.1 0) x = aAdd A v a b x := by
  unfold aAdd aU aWn
  refine Prod.ext ?_ rfl
  funext j
  show (if j = 20 + A.1 0 then x else _) = _
  by_cases h : j = 20 + A.1 0
  · simp only [h, if_true]
    rw [if_neg (by omega)]
  · simp [h]
section LN
variable {d : Nat} {T : Nat → Int32} {n t e : Nat} {I I0 : zI} {L L0 : zL} {P : zP} {A : Ai}
/-- the true world gets a bit -/
theorem cI_mk {p : Nat} (ht : il t) (h : cI t I L A) (hp : p < A.1 0) : cI t (zuI I t 1 (nI (A.1 1 ||| 2 ^ p))) L (aU A 1 (A.1 1 ||| 2 ^ p)) := by
  obtain ⟨h0, h1, h2, h3, h4, h5, h6, hk, hc, hs⟩ := h
  unfold il at ht
  have o : ∀ j, j ≠ 1 → (aU A 1 (A.1 1 ||| 2 ^ p)).1 j = A.1 j := fun j hj => aU_o hj
  have e1 : ∀ j, j ≠ 1 → (zuI I t 1 (nI (A.1 1 ||| 2 ^ p))) t j = I t j := fun j hj => zuI_o hj
  have e2 : ∀ a, a ≠ t → (zuI I t 1 (nI (A.1 1 ||| 2 ^ p))) a = I a := fun a ha => zuI_ne ha
  unfold cI
  rw [o 0 (by decide), aU_v, zuI_v, o 2 (by decide), o 3 (by decide), o 4 (by decide), o 5 (by decide), o 6 (by decide), e1 0 (by decide), e1 2 (by decide), e1 3 (by decide), e1 4 (by decide), e1 6 (by decide), e1 7 (by decide), e2 17 (by omega), e2 (t + 2) (by omega), e2 (t + 3) (by omega), e2 (t + 5) (by omega), o (30 + A.1 3) (by omega), o 30 (by omega)]
  refine ⟨h0, ⟨Nat.or_lt_two_pow h1.1 (Nat.pow_lt_pow_right (by decide) hp), rfl⟩, ?_, h3, h4, h5, h6, fun k hk' => ?_, hc, fun i hi => ?_⟩
  · obtain ⟨s, a, b, c⟩ := h2
    exact ⟨s, a, b, fun k hk' => by rw [o _ (by omega)]; exact c k hk'⟩
  · rw [o _ (by omega)]; exact hk k hk'
  · rw [o _ (by omega), o _ (by omega)]
    obtain ⟨a, b, c, d', f⟩ := hs i hi
    exact ⟨a, b, c, d', cT_c f (fun j _ => by rw [e2 (t + 3 + 1) (by omega)])⟩
theorem cI_sy {p : Nat} (ht : il t) (h : cI t I L A) (hp : p < A.1 0) {s : Nat} (es : I t 2 = nI s) (hs0 : s < 2 ^ A.1 0 ∧ ∀ k, k < A.1 0 → (s.testBit k = true ↔ A.1 (20 + k) ≠ 0)) : cI t (zuI I t 2 (nI (s ||| 2 ^ p))) L (aU A (20 + p) 1) := by
  obtain ⟨h0, h1, h2, h3, h4, h5, h6, hk, hc, hs⟩ := h
  unfold il at ht
  have o : ∀ j, j ≠ 20 + p → (aU A (20 + p) 1).1 j = A.1 j := fun j hj => aU_o hj
  have e1 : ∀ j, j ≠ 2 → (zuI I t 2 (nI (s ||| 2 ^ p))) t j = I t j := fun j hj => zuI_o hj
  have e2 : ∀ a, a ≠ t → (zuI I t 2 (nI (s ||| 2 ^ p))) a = I a := fun a ha => zuI_ne ha
  unfold cI
  rw [o 0 (by omega), o 1 (by omega), zuI_v, o 2 (by omega), o 3 (by omega), o 4 (by omega), o 5 (by omega), o 6 (by omega), e1 0 (by decide), e1 1 (by decide), e1 3 (by decide), e1 4 (by decide), e1 6 (by decide), e1 7 (by decide), e2 17 (by omega), e2 (t + 2) (by omega), e2 (t + 3) (by omega), e2 (t + 5) (by omega), o (30 + A.1 3) (by omega), o 30 (by omega)]
  refine ⟨h0, h1, ⟨s ||| 2 ^ p, Nat.or_lt_two_pow hs0.1 (Nat.pow_lt_pow_right (by decide) hp), rfl, fun k hk' => ?_⟩, h3, h4, h5, h6, fun k hk' => ?_, hc, fun i hi => ?_⟩
  · rw [Nat.testBit_or, Nat.testBit_two_pow]
    by_cases c : k = p
    · subst c; rw [aU_v]; simp
    · rw [o _ (by omega), ← hs0.2 k hk']
      have : decide (p = k) = false := decide_eq_false (fun z => c z.symm)
      rw [this, Bool.or_false]
  · rw [o _ (by omega)]; exact hk k hk'
  · rw [o _ (by omega), o _ (by omega)]
    obtain ⟨a, b, c, d', f⟩ := hs i hi
    exact ⟨a, b, c, d', cT_c f (fun j _ => by rw [e2 (t + 3 + 1) (by omega)])⟩
/-- one sees others, or himself -/
theorem cI_se {p x b : Nat} (ht : il t) (h : cI t I L A) (hp : p < A.1 0) (hx : x < 256) (hb : b ≤ 30) (ho : b = 0 → A.1 2 = 0 ∧ ∀ j, A.1 0 ≤ j → j < 8 → x.testBit j = true) : cI t (zuI (zuI I (t + 2) p (nI (x % 2 ^ A.1 0))) t 3 (nI b)) L (aU (aU A (10 + p) x) 2 b) := by
  obtain ⟨h0, h1, h2, h3, h4, h5, h6, hk, hc, hs⟩ := h
  unfold il at ht
  have o : ∀ j, j ≠ 2 → j ≠ 10 + p → (aU (aU A (10 + p) x) 2 b).1 j = A.1 j := fun j hj hj' => by rw [aU_o hj, aU_o hj']
  have ox : (aU (aU A (10 + p) x) 2 b).1 (10 + p) = x := by rw [aU_o (by omega), aU_v]
  have e1 : ∀ j, j ≠ 3 → (zuI (zuI I (t + 2) p (nI (x % 2 ^ A.1 0))) t 3 (nI b)) t j = I t j := fun j hj => by rw [zuI_o hj, zuI_ne (by omega)]
  have e2 : ∀ a, a ≠ t → a ≠ t + 2 → (zuI (zuI I (t + 2) p (nI (x % 2 ^ A.1 0))) t 3 (nI b)) a = I a := fun a ha ha' => by rw [zuI_ne ha, zuI_ne ha']
  have e3 : ∀ k, (zuI (zuI I (t + 2) p (nI (x % 2 ^ A.1 0))) t 3 (nI b)) (t + 2) k = if k = p then nI (x % 2 ^ A.1 0) else I (t + 2) k := by
    intro k
    rw [zuI_ne (by omega)]
    by_cases c : k = p
    · rw [c, zuI_v, if_pos rfl]
    · rw [zuI_o c, if_neg c]
  unfold cI
  rw [o 0 (by omega) (by omega), o 1 (by omega) (by omega), zuI_v, aU_v, o 3 (by omega) (by omega), o 4 (by omega) (by omega), o 5 (by omega) (by omega), o 6 (by omega) (by omega), e1 0 (by decide), e1 1 (by decide), e1 2 (by decide), e1 4 (by decide), e1 6 (by decide), e1 7 (by decide), e2 17 (by omega) (by omega), e2 (t + 3) (by omega) (by omega), e2 (t + 5) (by omega) (by omega), o (30 + A.1 3) (by omega) (by omega), o 30 (by omega) (by omega)]
  refine ⟨h0, h1, ?_, ⟨hb, rfl⟩, h4, h5, h6, fun k hk' => ?_, hc, fun i hi => ?_⟩
  · obtain ⟨s, a, b', c⟩ := h2
    exact ⟨s, a, b', fun k hk' => by rw [o _ (by omega) (by omega)]; exact c k hk'⟩
  · rw [e3 k]
    obtain ⟨y1, y2, y3, y4⟩ := hk k hk'
    by_cases c : k = p
    · subst c
      rw [ox, if_pos rfl]
      exact ⟨hx, y2, rfl, fun z => (ho z).2⟩
    · rw [o _ (by omega) (by omega), if_neg c]
      exact ⟨y1, y2, y3, fun z => y4 (ho z).1⟩
  · rw [o _ (by omega) (by omega), o _ (by omega) (by omega)]
    obtain ⟨a, b', c, d', f⟩ := hs i hi
    exact ⟨a, b', c, d', cT_c f (fun j _ => by rw [e2 (t + 3 + 1) (by omega) (by omega)])⟩
theorem zuI_id {I : zI} {a k : Nat} {v : Int32} (h : I a k = v) : zuI I a k v = I := by
  funext b j
  by_cases c : b = a
  · subst c
    by_cases c2 : j = k
    · subst c2; rw [zuI_v, h]
    · rw [zuI_o c2]
  · rw [zuI_ne c]
theorem aU_id {A : Ai} {k v : Nat} (h : A.1 k = v) : aU A k v = A := by
  refine Prod.ext ?_ rfl
  funext j
  show (if j = k then v else A.1 j) = A.1 j
  by_cases c : j = k
  · rw [if_pos c, c, h]
  · rw [if_neg c]
theorem bl_not : ∀ b, b < 8 → ∀ s, s < 256 → (nI s &&& (((1 : Int32) <<< (nI b &&& 31) : Int32) ^^^ (-1) : Int32) : Int32) = nI (s &&& (255 - 2 ^ b)) := by decide +kernel
theorem bl_and : ∀ b, b < 8 → ∀ np, np ≤ 8 → ∀ s, s < 256 → (s % 2 ^ np) &&& (255 - 2 ^ b) = (s &&& (255 - 2 ^ b)) % 2 ^ np := by decide +kernel
theorem mod_tb {s np b : Nat} (h : b < np) : (s % 2 ^ np).testBit b = s.testBit b := by rw [Nat.testBit_mod_two_pow]; simp [h]
theorem mod_256 {s np : Nat} (h : np ≤ 8) : s % 2 ^ np < 256 := Nat.lt_of_lt_of_le (Nat.mod_lt _ (Nat.two_pow_pos _)) (Nat.pow_le_pow_right (by decide) h)
abbrev gw_X2_giveMirror (d : Nat) (Q : zQt) (pc : Nat) (lv : zV) (st : List Value) (I : zI) (L : zL) (P : zP) : Prop := zW zm_X2_giveMirror (zRm d 0 0) 0 0 Q pc lv st I L P 205 0 0
abbrev v_X2_giveMirror (d : Nat) (Q : zQt) (a : Nat) (p1 : Int32) (I : zI) (L : zL) (P : zP) : Prop :=
  (a < 205 ∧ (zsh a).1 = 2) ∧
  il a ∧
  vp_in (I a 0) 9 ∧
  (((bP (vp_in p1 (I a 0).toNatClampNeg)) = 0 →
    Q none I L P 205
  ) ∧ (¬ (bP (vp_in p1 (I a 0).toNatClampNeg)) = 0 →
    ∃ b7 : Nat, P a 9 = some b7 ∧
    ∃ n10, (b7 < 205 ∧ zsh b7 = (100, n10)) ∧
    vp_in p1 n10 ∧
    ∀ I13 : zI, I13 = zuI I b7 p1.toNatClampNeg ((I b7 p1.toNatClampNeg) ||| ((1 : Int32) <<< (p1 &&& 31) : Int32) : Int32) →
    Q none I13 L P 205
  ))
set_option maxRecDepth 20000 in
theorem g_X2_giveMirror {d : Nat} {Q : zQt} {a : Nat} {p1 : Int32} {I : zI} {L : zL} {P : zP} (hP : zPk P) (hv : v_X2_giveMirror d Q a p1 I L P) : zM zm_X2_giveMirror (d + 1) 0 0 [.ref a, .int p1] I L P 205 Q := by
  unfold v_X2_giveMirror at hv
  refine zM_of (lv0 := [some (.ref a), some (.int p1)]) (by decide +kernel) (Nat.le_of_ble_eq_true rfl) rfl ?_
  refine z_aload_n dX2_giveMirror_0 rfl ?_
  refine z_iload_n dX2_giveMirror_1 rfl ?_
  obtain ⟨h1, hv⟩ := hv
  obtain ⟨h2, hv⟩ := hv
  obtain ⟨h3, hv⟩ := hv
  refine z_callV (As := [.int p1]) (st := []) dX2_giveMirror_2 zl_X2_59 zv_X2_isPerson (by decide) rfl h1.1 h1.2 rfl rfl (Nat.le_of_ble_eq_true rfl) ⟨Nat.le_refl _, Nat.le_refl _⟩ ⟨Nat.le_refl _, Nat.le_refl _⟩ (sp_X2_isPerson hP h2 h3 (K := fun r I' L' P' => bP (vp_in p1 (I a 0).toNatClampNeg) = r ∧ I = I' ∧ L = L' ∧ P = P') ⟨rfl, rfl, rfl, rfl⟩) (fun v1 I2 L2 P2 nx1 q5 => ?_)
  obtain ⟨rfl, r4, rfl, rfl, rfl, rfl, rfl⟩ := q5
  refine z_if_eq (tgt := 20) dX2_giveMirror_5 (by decide) (fun q6 => ?_) (fun q6 => ?_)
  · have hv := hv.1 q6
    exact z_return dX2_giveMirror_20 rfl (Nat.le_refl _) (Nat.le_refl _) hv
  · have hv := hv.2 q6
    refine z_aload_n dX2_giveMirror_8 rfl ?_
    obtain ⟨b7, h8, hv⟩ := hv
    refine z_getP dX2_giveMirror_9 zf_X2_15 h1.1 h1.2 (fun _ _ _ _ _ => rfl) h8 ?_
    refine z_iload_n dX2_giveMirror_12 rfl ?_
    refine z_dup2 dX2_giveMirror_13 rfl rfl ?_
    obtain ⟨n10, h9, hv⟩ := hv
    obtain ⟨h11, hv⟩ := hv
    refine z_iaload dX2_giveMirror_14 h9.1 h9.2 h11 ?_
    refine z_iconst (v := 1) dX2_giveMirror_15 (by decide) ?_
    refine z_iload_n dX2_giveMirror_16 rfl ?_
    refine z_ishl dX2_giveMirror_17 ?_
    refine z_ior dX2_giveMirror_18 ?_
    refine z_iastore dX2_giveMirror_19 h9.1 h9.2 h11 (z_nmI (fun I13 e12 => ?_))
    have hv := hv I13 e12
    exact z_return dX2_giveMirror_20 rfl (Nat.le_refl _) (Nat.le_refl _) hv
theorem sp_X2_giveMirror {v : Int64} {a c : Nat} (hP : zPk P) (ht : il t) (h8 : A.1 0 < 8) (hb : A.1 2 = 0) (h : cI t I L (aAdd A v a (255 - 2 ^ A.1 0) c)) (hd : 1 ≤ d) {K : zI → zL → zP → Prop}
    (kk : ∀ I', cI t I' L (aAdd A v a 255 c) → cFr [t, t + 2] I I' → K I' L P) : zMv zm_X2_giveMirror d [.ref t, .int (nI (A.1 0))] I L P K := by
  obtain ⟨d, rfl⟩ : ∃ e, d = e + 1 := ⟨d - 1, by omega⟩
  obtain ⟨b1, b2, b3, -⟩ := il_P ht hP
  have a0 := aAdd_0 (A := A) (v := v) (tw := a) (s := 255 - 2 ^ A.1 0) (st := c) h8
  have as := aAdd_s (A := A) (v := v) (tw := a) (s := 255 - 2 ^ A.1 0) (st := c) h8
  have a2 : (aAdd A v a (255 - 2 ^ A.1 0) c).1 2 = 0 := by rw [aAdd_o h8 (by omega) (by omega) (by omega) (by omega)]; exact hb
  have h0 : I t 0 = nI (A.1 0 + 1) := by rw [← a0]; exact h.1.2
  have hs := (h.2.2.2.2.2.2.2.1 (A.1 0) (by rw [a0]; omega)).2.2.1
  rw [as, a0, (see_new _ h8).1] at hs
  refine g_X2_giveMirror hP ⟨b1, ht, by rw [h0]; exact nx_in (by omega) (by decide), fun q => ?_, fun _ => ⟨t + 2, b3.1, 8, b3.2, nx_in h8 (by decide), fun I13 e13 => qv (kk I13 ?_ (by rw [e13]; exact cFr_c (cFr_rf _ _) (by simp)))⟩⟩
  · rw [h0, nI_cl (by omega), bP_0] at q
    exact absurd (nx_in (by omega) (by omega)) q
  · rw [nI_cl (by omega), hs, nx_set (by omega), (see_new _ h8).2.1] at e13
    have := cI_se (p := A.1 0) (x := 255) (b := 0) ht h (by rw [a0]; omega) (by decide) (by decide) (fun _ => ⟨a2, fun j hj1 hj2 => ((see_new _ h8).2.2 j hj2 (by rw [a0] at hj1; exact hj1)).2⟩)
    rw [aAdd_e2 _ _ _ _ _ _ h8, aU_id (by rw [aAdd_o h8 (by omega) (by omega) (by omega) (by omega)]; exact hb), a0, ← e13, zuI_id] at this
    · exact this
    · have := h.2.2.2.1.2
      rw [a2] at this
      unfold il at ht
      rw [e13, zuI_ne (by omega)]
      exact this
abbrev gw_X2_canBlind (d : Nat) (Q : zQt) (pc : Nat) (lv : zV) (st : List Value) (I : zI) (L : zL) (P : zP) : Prop := zW zm_X2_canBlind (zRm d 0 0) 0 0 Q pc lv st I L P 205 0 0
abbrev v_X2_canBlind (d : Nat) (Q : zQt) (a : Nat) (p1 : Int32) (p2 : Int32) (I : zI) (L : zL) (P : zP) : Prop :=
  (a < 205 ∧ (zsh a).1 = 2) ∧
  il a ∧
  vp_in (I a 0) 9 ∧
  (((bP (vp_in p1 (I a 0).toNatClampNeg)) = 0 →
    Q (some (.int 0)) I L P 205
  ) ∧ (¬ (bP (vp_in p1 (I a 0).toNatClampNeg)) = 0 →
    ((p1 = p2 →
      Q (some (.int 0)) I L P 205
    ) ∧ (¬ p1 = p2 →
      ∃ b8 : Nat, P a 9 = some b8 ∧
      ∃ n11, (b8 < 205 ∧ zsh b8 = (100, n11)) ∧
      vp_in p1 n11 ∧
      ((¬ (((I b8 p1.toNatClampNeg) >>> (p2 &&& 31) : Int32) &&& 1 : Int32) = 1 →
        Q (some (.int 0)) I L P 205
      ) ∧ ((((I b8 p1.toNatClampNeg) >>> (p2 &&& 31) : Int32) &&& 1 : Int32) = 1 →
        Q (some (.int 1)) I L P 205
      ))
    ))
  ))
set_option maxRecDepth 20000 in
theorem g_X2_canBlind {d : Nat} {Q : zQt} {a : Nat} {p1 : Int32} {p2 : Int32} {I : zI} {L : zL} {P : zP} (hP : zPk P) (hv : v_X2_canBlind d Q a p1 p2 I L P) : zM zm_X2_canBlind (d + 1) 0 0 [.ref a, .int p1, .int p2] I L P 205 Q := by
  unfold v_X2_canBlind at hv
  refine zM_of (lv0 := [some (.ref a), some (.int p1), some (.int p2)]) (by decide +kernel) (Nat.le_of_ble_eq_true rfl) rfl ?_
  refine z_aload_n dX2_canBlind_0 rfl ?_
  refine z_iload_n dX2_canBlind_1 rfl ?_
  obtain ⟨h1, hv⟩ := hv
  obtain ⟨h2, hv⟩ := hv
  obtain ⟨h3, hv⟩ := hv
  refine z_callV (As := [.int p1]) (st := []) dX2_canBlind_2 zl_X2_59 zv_X2_isPerson (by decide) rfl h1.1 h1.2 rfl rfl (Nat.le_of_ble_eq_true rfl) ⟨Nat.le_refl _, Nat.le_refl _⟩ ⟨Nat.le_refl _, Nat.le_refl _⟩ (sp_X2_isPerson hP h2 h3 (K := fun r I' L' P' => bP (vp_in p1 (I a 0).toNatClampNeg) = r ∧ I = I' ∧ L = L' ∧ P = P') ⟨rfl, rfl, rfl, rfl⟩) (fun v1 I2 L2 P2 nx1 q5 => ?_)
  obtain ⟨rfl, r4, rfl, rfl, rfl, rfl, rfl⟩ := q5
  refine z_if_eq (tgt := 31) dX2_canBlind_5 (by decide) (fun q6 => ?_) (fun q6 => ?_)
  · have hv := hv.1 q6
    refine z_iconst (v := 0) dX2_canBlind_31 (by decide) ?_
    exact z_ireturn dX2_canBlind_32 rfl (by decide) (Nat.le_refl _) (Nat.le_refl _) hv
  · have hv := hv.2 q6
    refine z_iload_n dX2_canBlind_8 rfl ?_
    refine z_iload_n dX2_canBlind_9 rfl ?_
    refine z_icmp_eq (tgt := 31) dX2_canBlind_10 (by decide) (fun q7 => ?_) (fun q7 => ?_)
    · have hv := hv.1 q7
      refine z_iconst (v := 0) dX2_canBlind_31 (by decide) ?_
      exact z_ireturn dX2_canBlind_32 rfl (by decide) (Nat.le_refl _) (Nat.le_refl _) hv
    · have hv := hv.2 q7
      refine z_aload_n dX2_canBlind_13 rfl ?_
      obtain ⟨b8, h9, hv⟩ := hv
      refine z_getP dX2_canBlind_14 zf_X2_15 h1.1 h1.2 (fun _ _ _ _ _ => rfl) h9 ?_
      refine z_iload_n dX2_canBlind_17 rfl ?_
      obtain ⟨n11, h10, hv⟩ := hv
      obtain ⟨h12, hv⟩ := hv
      refine z_iaload dX2_canBlind_18 h10.1 h10.2 h12 ?_
      refine z_iload_n dX2_canBlind_19 rfl ?_
      refine z_ishr dX2_canBlind_20 ?_
      refine z_iconst (v := 1) dX2_canBlind_21 (by decide) ?_
      refine z_iand dX2_canBlind_22 ?_
      refine z_iconst (v := 1) dX2_canBlind_23 (by decide) ?_
      refine z_icmp_ne (tgt := 31) dX2_canBlind_24 (by decide) (fun q13 => ?_) (fun q13 => ?_)
      · have hv := hv.1 q13
        refine z_iconst (v := 0) dX2_canBlind_31 (by decide) ?_
        exact z_ireturn dX2_canBlind_32 rfl (by decide) (Nat.le_refl _) (Nat.le_refl _) hv
      · have hv := hv.2 q13
        refine z_iconst (v := 1) dX2_canBlind_27 (by decide) ?_
        refine z_goto (tgt := 32) dX2_canBlind_28 (by decide) ?_
        exact z_ireturn dX2_canBlind_32 rfl (by decide) (Nat.le_refl _) (Nat.le_refl _) hv
theorem sp_X2_canBlind {a b : Nat} (hP : zPk P) (ht : il t) (h : cI t I L A) (ha : a < A.1 0) (hb : b < A.1 0) (hd : 1 ≤ d) {K : Int32 → zI → zL → zP → Prop} (k0 : (a = b ∨ (A.1 (10 + a)).testBit b = false) → K 0 I L P) (k1 : ¬ (a = b ∨ (A.1 (10 + a)).testBit b = false) → K 1 I L P) : zMi zm_X2_canBlind d [.ref t, .int (nI a), .int (nI b)] I L P K := by
  obtain ⟨d, rfl⟩ : ∃ e, d = e + 1 := ⟨d - 1, by omega⟩
  obtain ⟨b1, b2, b3, -⟩ := il_P ht hP
  have h0 := h.1
  obtain ⟨y1, y2, y3, y4⟩ := h.2.2.2.2.2.2.2.1 a ha
  have m := mod_256 (s := A.1 (10 + a)) h0.1
  refine g_X2_canBlind hP ⟨b1, ht, by rw [h0.2]; exact nx_in (by omega) (by decide), fun q => ?_, fun _ => ⟨fun q => qi (k0 (Or.inl ((nI_eq (by omega) (by omega)).mp q))), fun q => ⟨t + 2, b3.1, 8, b3.2, nx_in (by omega) (by decide), ?_⟩⟩⟩
  · rw [h0.2, nI_cl (by omega), bP_0] at q
    exact absurd (nx_in ha (by omega)) q
  · rw [nI_cl (by omega), y3, nx_bit1 (by omega) (by omega), mod_tb hb]
    refine ⟨fun z => qi (k0 (Or.inr (by simpa using z))), fun z => qi (k1 ?_)⟩
    rintro (y | y)
    · exact q (by rw [y])
    · rw [z] at y; cases y
abbrev gw_X2_addBlind (d : Nat) (Q : zQt) (pc : Nat) (lv : zV) (st : List Value) (I : zI) (L : zL) (P : zP) : Prop := zW zm_X2_addBlind (zRm d 0 0) 0 0 Q pc lv st I L P 205 0 0
abbrev v_X2_addBlind (d : Nat) (Q : zQt) (a : Nat) (p1 : Int32) (p2 : Int32) (I : zI) (L : zL) (P : zP) : Prop :=
  (a < 205 ∧ (zsh a).1 = 2) ∧
  il a ∧
  vp_in (I a 0) 9 ∧
  (((bP (vp_in p1 (I a 0).toNatClampNeg)) = 0 →
    ∀ I7 : zI, I7 = zuI I a 3 ((I a 3) + 1) →
    Q none I7 L P 205
  ) ∧ (¬ (bP (vp_in p1 (I a 0).toNatClampNeg)) = 0 →
    ∃ b9 : Nat, P a 9 = some b9 ∧
    ∃ n12, (b9 < 205 ∧ zsh b9 = (100, n12)) ∧
    vp_in p1 n12 ∧
    ∀ I15 : zI, I15 = zuI I b9 p1.toNatClampNeg ((I b9 p1.toNatClampNeg) &&& (((1 : Int32) <<< (p2 &&& 31) : Int32) ^^^ (-1) : Int32) : Int32) →
    ∀ I16 : zI, I16 = zuI I15 a 3 ((I15 a 3) + 1) →
    Q none I16 L P 205
  ))
set_option maxRecDepth 20000 in
theorem g_X2_addBlind {d : Nat} {Q : zQt} {a : Nat} {p1 : Int32} {p2 : Int32} {I : zI} {L : zL} {P : zP} (hP : zPk P) (hv : v_X2_addBlind d Q a p1 p2 I L P) : zM zm_X2_addBlind (d + 1) 0 0 [.ref a, .int p1, .int p2] I L P 205 Q := by
  unfold v_X2_addBlind at hv
  refine zM_of (lv0 := [some (.ref a), some (.int p1), some (.int p2)]) (by decide +kernel) (Nat.le_of_ble_eq_true rfl) rfl ?_
  refine z_aload_n dX2_addBlind_0 rfl ?_
  refine z_iload_n dX2_addBlind_1 rfl ?_
  obtain ⟨h1, hv⟩ := hv
  obtain ⟨h2, hv⟩ := hv
  obtain ⟨h3, hv⟩ := hv
  refine z_callV (As := [.int p1]) (st := []) dX2_addBlind_2 zl_X2_59 zv_X2_isPerson (by decide) rfl h1.1 h1.2 rfl rfl (Nat.le_of_ble_eq_true rfl) ⟨Nat.le_refl _, Nat.le_refl _⟩ ⟨Nat.le_refl _, Nat.le_refl _⟩ (sp_X2_isPerson hP h2 h3 (K := fun r I' L' P' => bP (vp_in p1 (I a 0).toNatClampNeg) = r ∧ I = I' ∧ L = L' ∧ P = P') ⟨rfl, rfl, rfl, rfl⟩) (fun v1 I2 L2 P2 nx1 q5 => ?_)
  obtain ⟨rfl, r4, rfl, rfl, rfl, rfl, rfl⟩ := q5
  refine z_if_eq (tgt := 22) dX2_addBlind_5 (by decide) (fun q6 => ?_) (fun q6 => ?_)
  · have hv := hv.1 q6
    refine z_aload_n dX2_addBlind_22 rfl ?_
    refine z_dup dX2_addBlind_23 rfl ?_
    refine z_getI dX2_addBlind_24 zf_X2_39 h1.1 h1.2 (fun _ _ _ _ _ => rfl) ?_
    refine z_iconst (v := 1) dX2_addBlind_27 (by decide) ?_
    refine z_iadd dX2_addBlind_28 ?_
    refine z_putI dX2_addBlind_29 zf_X2_39 h1.1 h1.2 (Or.inl rfl) (fun _ _ _ _ _ => rfl) rfl rfl (z_nmI (fun I7 e8 => ?_))
    have hv := hv I7 e8
    exact z_return dX2_addBlind_32 rfl (Nat.le_refl _) (Nat.le_refl _) hv
  · have hv := hv.2 q6
    refine z_aload_n dX2_addBlind_8 rfl ?_
    obtain ⟨b9, h10, hv⟩ := hv
    refine z_getP dX2_addBlind_9 zf_X2_15 h1.1 h1.2 (fun _ _ _ _ _ => rfl) h10 ?_
    refine z_iload_n dX2_addBlind_12 rfl ?_
    refine z_dup2 dX2_addBlind_13 rfl rfl ?_
    obtain ⟨n12, h11, hv⟩ := hv
    obtain ⟨h13, hv⟩ := hv
    refine z_iaload dX2_addBlind_14 h11.1 h11.2 h13 ?_
    refine z_iconst (v := 1) dX2_addBlind_15 (by decide) ?_
    refine z_iload_n dX2_addBlind_16 rfl ?_
    refine z_ishl dX2_addBlind_17 ?_
    refine z_iconst (v := (-1)) dX2_addBlind_18 (by decide) ?_
    refine z_ixor dX2_addBlind_19 ?_
    refine z_iand dX2_addBlind_20 ?_
    refine z_iastore dX2_addBlind_21 h11.1 h11.2 h13 (z_nmI (fun I15 e14 => ?_))
    have hv := hv I15 e14
    refine z_aload_n dX2_addBlind_22 rfl ?_
    refine z_dup dX2_addBlind_23 rfl ?_
    refine z_getI dX2_addBlind_24 zf_X2_39 h1.1 h1.2 (fun _ _ _ _ _ => rfl) ?_
    refine z_iconst (v := 1) dX2_addBlind_27 (by decide) ?_
    refine z_iadd dX2_addBlind_28 ?_
    refine z_putI dX2_addBlind_29 zf_X2_39 h1.1 h1.2 (Or.inl rfl) (fun _ _ _ _ _ => rfl) rfl rfl (z_nmI (fun I16 e17 => ?_))
    have hv := hv I16 e17
    exact z_return dX2_addBlind_32 rfl (Nat.le_refl _) (Nat.le_refl _) hv
theorem sp_X2_addBlind {a b : Nat} (hP : zPk P) (ht : il t) (h : cI t I L A) (ha : a < A.1 0) (hb : b < A.1 0) (h30 : A.1 2 < 30) (hd : 1 ≤ d) {K : zI → zL → zP → Prop} (kk : ∀ I', cI t I' L (aBl A a b) → cFr [t, t + 2] I I' → K I' L P) : zMv zm_X2_addBlind d [.ref t, .int (nI a), .int (nI b)] I L P K := by
  obtain ⟨d, rfl⟩ : ∃ e, d = e + 1 := ⟨d - 1, by omega⟩
  obtain ⟨b1, b2, b3, -⟩ := il_P ht hP
  have h0 := h.1
  obtain ⟨y1, y2, y3, y4⟩ := h.2.2.2.2.2.2.2.1 a ha
  have m := mod_256 (s := A.1 (10 + a)) h0.1
  refine g_X2_addBlind hP ⟨b1, ht, by rw [h0.2]; exact nx_in (by omega) (by decide), fun q => ?_, fun _ => ⟨t + 2, b3.1, 8, b3.2, nx_in (by omega) (by decide), fun I15 e15 I16 e16 => qv (kk I16 ?_ (by rw [e16, e15]; exact cFr_c (cFr_c (cFr_rf _ _) (by simp)) (by simp)))⟩⟩
  · rw [h0.2, nI_cl (by omega), bP_0] at q
    exact absurd (nx_in ha (by omega)) q
  · have hil := ht
    unfold il at hil
    rw [nI_cl (by omega), y3, bl_not b (by omega) _ m, bl_and b (by omega) _ h0.1 _ y1] at e15
    have e3 : I15 t 3 = nI (A.1 2) := by rw [e15, zuI_ne (by omega)]; exact h.2.2.2.1.2
    rw [e3, nI_1, e15] at e16
    rw [e16]
    exact cI_se (p := a) ht h ha (Nat.lt_of_le_of_lt Nat.and_le_left y1) (by omega) (fun z => absurd z (by omega))
end LN
