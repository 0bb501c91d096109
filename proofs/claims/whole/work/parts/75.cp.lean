/-! ===== the fewest sayings: what is noted ===== -/
abbrev gw_X4_result (d : Nat) (Q : zQt) (pc : Nat) (lv : zV) (st : List Value) (I : zI) (L : zL) (P : zP) : Prop := zW zm_X4_result (zRm d 0 0) 0 0 Q pc lv st I L P 205 0 0
abbrev v_X4_result (d : Nat) (Q : zQt)  (I : zI) (L : zL) (P : zP) : Prop :=
  Q (some (.ref 25)) I L P 205
set_option maxRecDepth 20000 in
theorem g_X4_result {d : Nat} {Q : zQt}  {I : zI} {L : zL} {P : zP} (hP : zPk P) (hv : v_X4_result d Q  I L P) : zM zm_X4_result d 0 0 [.ref 23] I L P 205 Q := by
  unfold v_X4_result at hv
  refine zM_of (lv0 := [some (.ref 23)]) (by decide +kernel) (Nat.le_of_ble_eq_true rfl) rfl ?_
  refine z_aload_n dX4_result_0 rfl ?_
  refine z_getP dX4_result_1 zf_X4_15 zn_23 zo_23 (fun _ _ _ _ _ => rfl) (hP 23 0 24 zp_23_0) ?_
  refine z_iconst (v := 0) dX4_result_4 (by decide) ?_
  refine z_aaload dX4_result_5 zn_24 zh_24 (Or.inl rfl) (by unfold vp_in; decide) (hP 24 0 25 zp_24_0) ?_
  exact z_areturn dX4_result_6 rfl (Nat.le_refl _) (Nat.le_refl _) hv
theorem sp_X4_result {d : Nat} {I : zI} {L : zL} {P : zP} (hP : zPk P) {K : Nat → zI → zL → zP → Prop} (k : K 25 I L P) : zMr zm_X4_result d [.ref 23] I L P K := g_X4_result hP (qr k)
section PU
variable (M : zI) (gn : Nat) (po : Nat → Prop)
/-- what is left behind the sayings of s below m; none if one is not so -/
noncomputable def sL : Nat → Nat → Option (Nat → Prop)
  | 0, _ => some po
  | m + 1, s => match sL m s with
    | none => none
    | some q => if s.testBit m = true then (if aRw M q gn (vSy M m) (vTw M) = 0 then none else some (fun w => q w ∧ ¬ aRw M q gn (vSy M m) w = 0)) else some q
/-- the same; none also if one strikes nothing -/
noncomputable def sS : Nat → Nat → Option (Nat → Prop)
  | 0, _ => some po
  | m + 1, s => match sS m s with
    | none => none
    | some q => if s.testBit m = true then (if aRw M q gn (vSy M m) (vTw M) = 0 ∨ cP (fun w => q w ∧ aRw M q gn (vSy M m) w = 0) (vN M) = 0 then none else some (fun w => q w ∧ ¬ aRw M q gn (vSy M m) w = 0)) else some q
end PU
section PV
variable {M : zI} {gn : Nat} {po : Nat → Prop}
theorem sL_n {m s : Nat} (h : sL M gn po m s = none) : sL M gn po (m + 1) s = none := by unfold sL; rw [h]
theorem sL_0 {m s : Nat} {q : Nat → Prop} (h : sL M gn po m s = some q) (hb : ¬ s.testBit m = true) : sL M gn po (m + 1) s = some q := by unfold sL; rw [h]; exact if_neg hb
theorem sL_1 {m s : Nat} {q : Nat → Prop} (h : sL M gn po m s = some q) (hb : s.testBit m = true) (hr : aRw M q gn (vSy M m) (vTw M) = 0) : sL M gn po (m + 1) s = none := by unfold sL; rw [h]; exact (if_pos hb).trans (if_pos hr)
theorem sL_2 {m s : Nat} {q : Nat → Prop} (h : sL M gn po m s = some q) (hb : s.testBit m = true) (hr : ¬ aRw M q gn (vSy M m) (vTw M) = 0) : sL M gn po (m + 1) s = some (fun w => q w ∧ ¬ aRw M q gn (vSy M m) w = 0) := by unfold sL; rw [h]; exact (if_pos hb).trans (if_neg hr)
theorem sS_n {m s : Nat} (h : sS M gn po m s = none) : sS M gn po (m + 1) s = none := by unfold sS; rw [h]
theorem sS_0 {m s : Nat} {q : Nat → Prop} (h : sS M gn po m s = some q) (hb : ¬ s.testBit m = true) : sS M gn po (m + 1) s = some q := by unfold sS; rw [h]; exact if_neg hb
theorem sS_1 {m s : Nat} {q : Nat → Prop} (h : sS M gn po m s = some q) (hb : s.testBit m = true) (hr : aRw M q gn (vSy M m) (vTw M) = 0 ∨ cP (fun w => q w ∧ aRw M q gn (vSy M m) w = 0) (vN M) = 0) : sS M gn po (m + 1) s = none := by unfold sS; rw [h]; exact (if_pos hb).trans (if_pos hr)
theorem sS_2 {m s : Nat} {q : Nat → Prop} (h : sS M gn po m s = some q) (hb : s.testBit m = true) (hr : ¬ (aRw M q gn (vSy M m) (vTw M) = 0 ∨ cP (fun w => q w ∧ aRw M q gn (vSy M m) w = 0) (vN M) = 0)) : sS M gn po (m + 1) s = some (fun w => q w ∧ ¬ aRw M q gn (vSy M m) w = 0) := by unfold sS; rw [h]; exact (if_pos hb).trans (if_neg hr)
theorem sS_low {s s' : Nat} : ∀ m, (∀ i, i < m → s.testBit i = s'.testBit i) → sS M gn po m s = sS M gn po m s'
  | 0, _ => rfl
  | m + 1, h => by unfold sS; rw [sS_low m (fun i hi => h i (by omega)), h m (by omega)]
theorem sS_L {s : Nat} : ∀ m q, sS M gn po m s = some q → sL M gn po m s = some q
  | 0, q, h => h
  | m + 1, q, h => by
    cases e : sS M gn po m s with
    | none => rw [sS_n e] at h; cases h
    | some r =>
      have ih := sS_L m r e
      by_cases hb : s.testBit m = true
      · by_cases hr : aRw M r gn (vSy M m) (vTw M) = 0 ∨ cP (fun w => r w ∧ aRw M r gn (vSy M m) w = 0) (vN M) = 0
        · rw [sS_1 e hb hr] at h; cases h
        · rw [sS_2 e hb hr] at h
          rw [sL_2 ih hb (fun z => hr (Or.inl z))]; exact h
      · rw [sS_0 e hb] at h
        rw [sL_0 ih hb]; exact h
theorem sS_sub (ht : po (vTw M)) {s : Nat} : ∀ m q, sS M gn po m s = some q → (∀ w, q w → po w) ∧ q (vTw M)
  | 0, q, h => by cases h; exact ⟨fun _ h => h, ht⟩
  | m + 1, q, h => by
    cases e : sS M gn po m s with
    | none => rw [sS_n e] at h; cases h
    | some r =>
      have ih := sS_sub ht m r e
      by_cases hb : s.testBit m = true
      · by_cases hr : aRw M r gn (vSy M m) (vTw M) = 0 ∨ cP (fun w => r w ∧ aRw M r gn (vSy M m) w = 0) (vN M) = 0
        · rw [sS_1 e hb hr] at h; cases h
        · rw [sS_2 e hb hr] at h
          cases h
          exact ⟨fun w hw => ih.1 w hw.1, ih.2, fun z => hr (Or.inl z)⟩
      · rw [sS_0 e hb] at h
        cases h; exact ih
/-- as the reference says them -/
theorem sL_aSy {s : Nat} : ∀ m i q, sL M gn po i s = some q → aSy M s gn m i q = sL M gn po (i + m) s
  | 0, i, q, h => h.symm
  | m + 1, i, q, h => by
    have dead : sL M gn po (i + 1) s = none → ∀ j, sL M gn po (i + 1 + j) s = none := by
      intro h j
      induction j with
      | zero => exact h
      | succ j ih => exact sL_n ih
    rw [show i + (m + 1) = i + 1 + m by omega]
    unfold aSy
    by_cases hb : s.testBit i = true
    · rw [if_pos hb]
      by_cases hr : aRw M q gn (vSy M i) (vTw M) = 0
      · rw [if_pos hr, dead (sL_1 h hb hr)]
      · rw [if_neg hr]; exact sL_aSy m (i + 1) _ (sL_2 h hb hr)
    · rw [if_neg hb]; exact sL_aSy m (i + 1) _ (sL_0 h hb)
theorem aRw_po {q q' : Nat → Prop} (hnp : vNp M ≤ 8) {cs : List (Int32 × Int32)} (hG : eGd (vNp M) cs) (h : ∀ w, w < vN M → (q w ↔ q' w)) {w : Nat} (hw : w < vN M) : aRw M q gn cs w = aRw M q' gn cs w := by
  unfold aRw
  exact eRun_ag (T := fun _ => True) (fun _ _ _ => trivial) h (fun _ _ _ _ _ _ _ _ => Iff.rfl) hnp cs 0 _ _ hG.1 (fun _ _ _ _ _ => rfl) 0 w (by rw [hG.2]; decide) hw trivial
theorem popc_hi {s m : Nat} (h : s < 2 ^ m) : ∀ k, m ≤ k → popc s k = popc s m := by
  intro k
  induction k with
  | zero => intro hk; rw [show m = 0 by omega]
  | succ k ih =>
    intro hk
    by_cases e : m = k + 1
    · rw [e]
    · have hb : ¬ s.testBit k = true := by
        have : s < 2 ^ k := Nat.lt_of_lt_of_le h (Nat.pow_le_pow_right (by decide) (by omega))
        rw [Nat.testBit_lt_two_pow this]; decide
      show popc s k + (if s.testBit k = true then 1 else 0) = _
      rw [if_neg hb, ih (by omega)]; rfl
theorem popc_low {s s' : Nat} : ∀ m, (∀ i, i < m → s.testBit i = s'.testBit i) → popc s m = popc s' m
  | 0, _ => rfl
  | m + 1, h => by unfold popc; rw [popc_low m (fun i hi => h i (by omega)), h m (by omega)]
theorem bit_add {s m : Nat} (h : s < 2 ^ m) : (2 ^ m + s).testBit m = true ∧ ∀ i, i < m → (2 ^ m + s).testBit i = s.testBit i := by
  refine ⟨?_, fun i hi => ?_⟩
  · rw [Nat.testBit_two_pow_add_eq, Nat.testBit_lt_two_pow h]; rfl
  · rw [Nat.testBit_two_pow_add_gt hi]
theorem bit_not {s m : Nat} (h : s < 2 ^ m) : ¬ s.testBit m = true := by rw [Nat.testBit_lt_two_pow h]; decide
/-- sayings that strike nothing can be left out -/
theorem sL_drop (hB : MB M) (hC : MC M) (ht : po (vTw M)) (hT : MT M) {s : Nat} : ∀ m, m ≤ vNs M → ∀ q, sL M gn po m s = some q → sS M gn po m s = some q ∨ ∃ s' q', s' < 2 ^ m ∧ popc s' m < popc s m ∧ sS M gn po m s' = some q' ∧ ∀ w, w < vN M → (q' w ↔ q w)
  | 0, _, q, h => Or.inl h
  | m + 1, hm, r, h => by
    have hGm := (hC.2.2 m (by omega)).2.2.2
    have hGm : eGd (vNp M) (vSy M m) := hGm
    have p1 : ∀ x, popc x (m + 1) = popc x m + (if x.testBit m = true then 1 else 0) := fun _ => rfl
    cases e : sL M gn po m s with
    | none => rw [sL_n e] at h; cases h
    | some q =>
      rcases sL_drop hB hC ht hT m (by omega) q e with ih | ⟨s', q', i1, i2, i3, i4⟩
      · by_cases hb : s.testBit m = true
        · by_cases hr : aRw M q gn (vSy M m) (vTw M) = 0
          · rw [sL_1 e hb hr] at h; cases h
          · rw [sL_2 e hb hr] at h
            by_cases hc : cP (fun w => q w ∧ aRw M q gn (vSy M m) w = 0) (vN M) = 0
            · have lw : ∀ i, i < m → (s % 2 ^ m).testBit i = s.testBit i := fun i hi => by rw [Nat.testBit_mod_two_pow]; simp [hi]
              have hl : s % 2 ^ m < 2 ^ m := Nat.mod_lt _ (pw0 m)
              refine Or.inr ⟨s % 2 ^ m, q, Nat.lt_of_lt_of_le hl (Nat.pow_le_pow_right (by decide) (by omega)), ?_, sS_0 (by rw [sS_low m lw]; exact ih) (bit_not hl), fun w hw => ?_⟩
              · rw [p1, p1, if_neg (bit_not hl), if_pos hb, popc_low m lw]; omega
              · cases h
                exact ⟨fun z => ⟨z, fun y => (cP_0.mp hc) w hw ⟨z, y⟩⟩, fun z => z.1⟩
            · left
              rw [sS_2 ih hb (fun z => z.elim hr hc)]; exact h
        · rw [sL_0 e hb] at h
          left
          rw [sS_0 ih hb]; exact h
      · have l' : s' < 2 ^ (m + 1) := Nat.lt_of_lt_of_le i1 (Nat.pow_le_pow_right (by decide) (by omega))
        have rw' : ∀ w, w < vN M → aRw M q' gn (vSy M m) w = aRw M q gn (vSy M m) w := fun w hw => aRw_po hB.2.1 hGm i4 hw
        by_cases hb : s.testBit m = true
        · by_cases hr : aRw M q gn (vSy M m) (vTw M) = 0
          · rw [sL_1 e hb hr] at h; cases h
          · rw [sL_2 e hb hr] at h
            cases h
            by_cases hc : cP (fun w => q' w ∧ aRw M q' gn (vSy M m) w = 0) (vN M) = 0
            · refine Or.inr ⟨s', q', l', ?_, sS_0 i3 (bit_not i1), fun w hw => ?_⟩
              · rw [p1, p1, if_neg (bit_not i1), if_pos hb]; omega
              · show q' w ↔ (q w ∧ ¬ aRw M q gn (vSy M m) w = 0)
                rw [← rw' w hw, ← i4 w hw]
                exact ⟨fun z => ⟨z, fun y => (cP_0.mp hc) w hw ⟨z, y⟩⟩, fun z => z.1⟩
            · obtain ⟨b1, b2⟩ := bit_add i1
              refine Or.inr ⟨2 ^ m + s', _, by rw [Nat.pow_succ]; omega, ?_, sS_2 (q := q') (by rw [sS_low m b2]; exact i3) b1 (fun z => z.elim (fun y => hr (by rw [← rw' _ hT.1]; exact y)) hc), fun w hw => ?_⟩
              · rw [p1, p1, if_pos b1, if_pos hb, popc_low m b2]; omega
              · show (q' w ∧ ¬ aRw M q' gn (vSy M m) w = 0) ↔ (q w ∧ ¬ aRw M q gn (vSy M m) w = 0)
                rw [rw' w hw, i4 w hw]
        · rw [sL_0 e hb] at h
          cases h
          refine Or.inr ⟨s', q', l', ?_, sS_0 i3 (bit_not i1), i4⟩
          rw [p1, p1, if_neg (bit_not i1), if_neg hb]; omega
theorem aPo_c {q q' : Nat → Prop} (h : ∀ w, w < vN M → (q w ↔ q' w)) (g : Nat) : ∀ w, w < vN M → (aPo M q g w ↔ aPo M q' g w) := by
  intro w hw
  unfold aPo
  rw [aGs_c h, aGs_c h, h w hw]
theorem aNt_po : ∀ n acc g (q q' : Nat → Prop), (∀ w, w < vN M → (q w ↔ q' w)) → aNt M n acc q g = aNt M n acc q' g
  | 0, _, _, _, _, _ => rfl
  | n + 1, acc, g, q, q', h => by
    unfold aNt
    have e : aGn M q g = aGn M q' g := by unfold aGn; rw [aGs_c h]
    rw [aGs_c h, e]
    exact aNt_po n _ _ _ _ (aPo_c h g)
theorem aNt_fix {q : Nat → Prop} {g : Nat} (h0 : aGs M q g (vTw M) = 0) (hc : cP (fun w => q w ∧ ¬ aGs M q g w = aGs M q g (vTw M)) (vN M) = 0) : ∀ n acc, aNt M n acc q g = acc
  | 0, _ => rfl
  | n + 1, acc => by
    unfold aNt
    have e : aGn M q g = g := by unfold aGn; rw [h0, Nat.or_zero]
    rw [h0, Nat.or_zero, e, aNt_po n acc g (aPo M q g) q (fun w hw => ⟨fun z => z.1, fun z => ⟨z, Classical.byContradiction (fun y => (cP_0.mp hc) w hw ⟨z, y⟩)⟩⟩)]
    exact aNt_fix h0 hc n acc
theorem aNt_or : ∀ n acc g (q : Nat → Prop), ∃ z, aNt M n acc q g = acc ||| z
  | 0, acc, _, _ => ⟨0, (Nat.or_zero acc).symm⟩
  | n + 1, acc, g, q => by
    obtain ⟨z, hz⟩ := aNt_or n (acc ||| aGs M q g (vTw M)) (aGn M q g) (aPo M q g)
    exact ⟨aGs M q g (vTw M) ||| z, by unfold aNt; rw [hz, Nat.or_assoc]⟩
end PV
theorem fBs_u {G : Nat → Prop} {m : Nat} {r r' : Int32} (h : fBs G m r) (h' : fBs G m r') : r = r' := by
  rcases h with ⟨h1, h2⟩ | ⟨b, b1, b2, b3, b4⟩ <;> rcases h' with ⟨h1', h2'⟩ | ⟨b', b1', b2', b3', b4'⟩
  · rw [h1, h1']
  · exact absurd b3' (h2 b' b1')
  · exact absurd b3 (h2' b b1)
  · have x := b4 b' b1' b3'
    have y := b4' b b1 b3
    have : b = b' := by omega
    rw [b2, b2', this]
