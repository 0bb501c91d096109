/-! ===== the model: a formula ===== -/
def mV (u0 lim : Nat) (b : Bool) (S : List Ent) (w u : Nat) (c : List (Int32 × Int32)) : Prop := mW u0 lim b S w u c ∧ ∀ x ∈ S, x.2.1 < 128
theorem mT_inj {b b' : Bool} {S S' : List Ent} {w w' e e' u u' : Nat} {c c' : List (Int32 × Int32)} (h : mT b S w e u c = mT b' S' w' e' u' c') : b = b' ∧ S = S' ∧ w = w' ∧ e = e' ∧ u = u' ∧ c = c' := by
  have h := Sum.inr.inj h
  injection h with h1 h
  injection h with h2 h
  injection h with h3 h
  injection h with h4 h
  injection h with h5 h
  exact ⟨h1, h2, h3, h4, h5, h⟩
theorem mF_ne {k p : Nat} {b : Bool} {S : List Ent} {w e u : Nat} {c : List (Int32 × Int32)} (h : mF k p = mT b S w e u c) : False := by cases h
theorem bEnd_c (T : Nat → Int32) (n e u : Nat) (q : Ent) (S : List Ent) (w : Nat) (c : List (Int32 × Int32)) : bEnd T n e u (q :: S) w c = if q.1 = 7 then (@ite _ (tK T n e = 41) (Classical.propDecidable _) (mT false S (w - 1) (tE T n e) u (if q.2.1 = 40 then c else c ++ [(nI q.2.1, q.2.2)])) (mBad T n e)) else mT false S w e u c := rfl
section OK
variable {T : Nat → Int32} {n : Nat} {nm : Int64 → Option Nat} {u0 lim : Nat} {q : Ent} {S : List Ent} {w e u : Nat} {c : List (Int32 × Int32)}
theorem uCon_ok {h : Nat} {v : Int32} (hm : mV u0 lim true (q :: S) w u c) (hu : u ≠ lim) (hh : h < 128) (hw : ¬ (uOp h ∧ w = 7)) {b' : Bool} {S' : List Ent} {w' e' u' : Nat} {c' : List (Int32 × Int32)} (he : uCon T n h v (q :: S) w e (u + 1) c = mT b' S' w' e' u' c') : mV u0 lim b' S' w' u' c' := by
  obtain ⟨⟨h1, h2, h3, h4, h5, -⟩, h6⟩ := hm
  have hnt := sOk_nt h1
  rw [if_pos rfl] at h5
  have opn : ∀ e2, mT true ((7, h, v) :: q :: S) (w + 1) e2 (u + 1) c = mT b' S' w' e' u' c' → uOp h → mV u0 lim b' S' w' u' c' := by
    intro e2 he ho
    obtain ⟨rfl, rfl, rfl, rfl, rfl, rfl⟩ := mT_inj he
    have : w ≠ 7 := fun z => hw ⟨ho, z⟩
    refine ⟨⟨Or.inr (Or.inl ⟨rfl, List.cons_ne_nil _ _, by omega, by rw [Nat.add_sub_cancel]; exact h1⟩), by omega, by omega, by omega, ?_, fun _ => List.cons_ne_nil _ _⟩, fun x hx => ?_⟩
    · rw [if_pos rfl, List.length_cons]; omega
    · rcases List.mem_cons.mp hx with z | z
      · rw [z]; exact hh
      · exact h6 x z
  unfold uCon at he
  by_cases ho : uOp h
  · rw [if_pos ho] at he
    by_cases h40 : h = 40
    · rw [if_pos h40] at he; exact opn _ he ho
    · rw [if_neg h40] at he
      by_cases hk : tK T n e = 40
      · rw [if_pos hk] at he; exact opn _ he ho
      · rw [if_neg hk] at he; exact (mF_ne he).elim
  · rw [if_neg ho] at he
    obtain ⟨rfl, rfl, rfl, rfl, rfl, rfl⟩ := mT_inj he
    refine ⟨⟨h1, h2, by omega, by omega, ?_, fun z => by cases z⟩, h6⟩
    rw [if_neg (by decide), List.length_append, List.length_singleton]
    omega
theorem uStep_ok (hm : mV u0 lim true (q :: S) w u c) {b' : Bool} {S' : List Ent} {w' e' u' : Nat} {c' : List (Int32 × Int32)} (he : uStep T n nm lim (q :: S) w e u c = mT b' S' w' e' u' c') : mV u0 lim b' S' w' u' c' := by
  have hm' := hm
  obtain ⟨⟨h1, h2, h3, h4, h5, -⟩, h6⟩ := hm
  rw [if_pos rfl] at h5
  unfold uStep at he
  by_cases hn : (eTop (q :: S) ≤ 3 ∨ 7 ≤ eTop (q :: S)) ∧ tK T n e = 267
  · rw [if_pos hn] at he
    by_cases h7 : w = 7
    · rw [if_pos h7] at he; exact (mF_ne he).elim
    · rw [if_neg h7] at he
      obtain ⟨rfl, rfl, rfl, rfl, rfl, rfl⟩ := mT_inj he
      refine ⟨⟨Or.inr (Or.inr (Or.inl ⟨rfl, List.cons_ne_nil _ _, by omega, by rw [Nat.add_sub_cancel]; exact h1⟩)), by omega, h3, h4, ?_, fun _ => List.cons_ne_nil _ _⟩, fun x hx => ?_⟩
      · have : eNt ((3, 126, (0 : Int32)) :: q :: S) = eNt (q :: S) + 1 := if_pos rfl
        rw [if_pos rfl, this, List.length_cons]; omega
      · rcases List.mem_cons.mp hx with z | z
        · rw [z]; show 126 < 128; decide
        · exact h6 x z
  · rw [if_neg hn] at he
    by_cases hb : uH (tK T n e) = 0 ∨ u = lim ∨ (uOp (uH (tK T n e)) ∧ w = 7)
    · rw [if_pos hb] at he; exact (mF_ne he).elim
    · rw [if_neg hb] at he
      have hu : u ≠ lim := fun z => hb (Or.inr (Or.inl z))
      have hw : ¬ (uOp (uH (tK T n e)) ∧ w = 7) := fun z => hb (Or.inr (Or.inr z))
      by_cases hnm : uNm (uH (tK T n e))
      · rw [if_pos hnm] at he
        unfold uNam at he
        by_cases hk : tK T n (tE T n e) = 273
        · rw [if_pos hk] at he
          cases ho : nm (tV T n (tE T n e)) with
          | none => rw [ho] at he; exact (mF_ne he).elim
          | some k => rw [ho] at he; exact uCon_ok hm' hu (uH_lt _) hw he
        · rw [if_neg hk] at he; exact (mF_ne he).elim
      · rw [if_neg hnm] at he
        exact uCon_ok hm' hu (uH_lt _) hw he
theorem bPop_ok {r : Nat} : ∀ {S : List Ent} {q : Ent} {w : Nat} {c : List (Int32 × Int32)}, sOk (q :: S) w → (∀ x ∈ q :: S, x.2.1 < 128) →
    ∃ q' S' w' c', bPop r (q :: S) w c = (q' :: S', w', c') ∧ sOk (q' :: S') w' ∧ w' ≤ w ∧ c'.length + (q' :: S').length = c.length + (q :: S).length ∧ (6 < q'.1 ∨ q'.1 < r) ∧ ∀ x ∈ q' :: S', x.2.1 < 128
  | [], q, w, c, ho, hs => by
    have h6 : 6 < q.1 := Nat.lt_of_not_le (fun z => (sOk_ne ho).1 z |>.1 rfl)
    exact ⟨q, [], w, c, if_neg (fun z => by omega), ho, Nat.le_refl _, rfl, Or.inl h6, hs⟩
  | q1 :: S, q, w, c, ho, hs => by
    by_cases hp : q.1 ≤ 6 ∧ r ≤ q.1
    · have e : bPop r (q :: q1 :: S) w c = bPop r (q1 :: S) (if q.1 = 3 then w - 1 else w) (c ++ [(nI q.2.1, 0)]) := if_pos hp
      have ho' : sOk (q1 :: S) (if q.1 = 3 then w - 1 else w) := by
        by_cases h3 : q.1 = 3
        · rw [if_pos h3]; exact (sOk_ne ho).2.2.2.2.1 h3
        · rw [if_neg h3]; exact (sOk_ne ho).2.2.2.2.2.1 hp.1 h3
      obtain ⟨q', S', w', c', a1, a2, a3, a4, a5, a6⟩ := bPop_ok (r := r) (c := c ++ [(nI q.2.1, 0)]) ho' (fun x hx => hs x (List.mem_cons_of_mem _ hx))
      refine ⟨q', S', w', c', e.trans a1, a2, ?_, ?_, a5, a6⟩
      · split at a3 <;> omega
      · rw [a4, List.length_append, List.length_singleton, List.length_cons (a := q)]; omega
    · exact ⟨q, q1 :: S, w, c, if_neg hp, ho, Nat.le_refl _, rfl, by omega, hs⟩
theorem rkH_or {k : Nat} (h : 0 < rkH k) : rkH k = 1 ∨ rkH k = 2 ∨ rkH k = 4 ∨ rkH k = 5 ∨ rkH k = 6 := by
  unfold rkH at h ⊢
  repeat' split
  all_goals first | omega | (exfalso; revert h; simp_all)
theorem bStep_ok (hm : mV u0 lim false (q :: S) w u c) {b' : Bool} {S' : List Ent} {w' e' u' : Nat} {c' : List (Int32 × Int32)} (he : bStep T n (q :: S) w e u c = mT b' S' w' e' u' c') : mV u0 lim b' S' w' u' c' := by
  obtain ⟨⟨h1, h2, h3, h4, h5, -⟩, h6⟩ := hm
  rw [if_neg (by decide)] at h5
  obtain ⟨q1, S1, w1, c1, a1, a2, a3, a4, a5, a6⟩ := bPop_ok (r := rkH (tK T n e)) (c := c) h1 h6
  unfold bStep at he
  by_cases hc : rkH (tK T n e) = 4 ∧ bCmp (q :: S)
  · rw [if_pos hc] at he; exact (mF_ne he).elim
  · rw [if_neg hc, a1] at he
    have he : bRest T n (rkH (tK T n e)) (q1 :: S1) w1 e u c1 = mT b' S' w' e' u' c' := he
    unfold bRest at he
    by_cases hr : 0 < rkH (tK T n e)
    · rw [if_pos hr] at he
      obtain ⟨rfl, rfl, rfl, rfl, rfl, rfl⟩ := mT_inj he
      have ho := rkH_or hr
      refine ⟨⟨Or.inr (Or.inr (Or.inr ⟨ho, List.cons_ne_nil _ _, ?_, a2⟩)), by omega, h3, h4, ?_, fun _ => List.cons_ne_nil _ _⟩, fun x hx => ?_⟩
      · show q1.1 < _ ∨ 7 ≤ q1.1
        omega
      · rw [if_pos rfl, List.length_cons]; omega
      · rcases List.mem_cons.mp hx with z | z
        · rw [z]
          show bChr _ _ < 128
          unfold bChr
          by_cases z2 : rkH (tK T n e) = 2
          · rw [if_pos z2]; decide
          · by_cases z1 : rkH (tK T n e) = 1
            · rw [if_neg z2, if_pos z1]; decide
            · rw [if_neg z2, if_neg z1]
              have := (rkH_sg (k := tK T n e) (by omega) z1 z2).2
              omega
        · exact a6 x z
    · rw [if_neg hr] at he
      rw [bEnd_c] at he
      have h9 := sOk_ne a2
      by_cases h7 : q1.1 = 7
      · rw [if_pos h7] at he
        by_cases hk : tK T n e = 41
        · rw [if_pos hk] at he
          obtain ⟨rfl, rfl, rfl, rfl, rfl, rfl⟩ := mT_inj he
          have h7' := h9.2.2.2.1 h7
          refine ⟨⟨h7'.2.2, by omega, h3, h4, ?_, fun z => by cases z⟩, fun x hx => a6 x (List.mem_cons_of_mem _ hx)⟩
          rw [if_neg (show ¬ (false = true) by decide)]
          rw [List.length_cons] at a4
          split
          · omega
          · rw [List.length_append, List.length_singleton]; omega
        · rw [if_neg hk] at he; exact (mF_ne he).elim
      · rw [if_neg h7] at he
        obtain ⟨rfl, rfl, rfl, rfl, rfl, rfl⟩ := mT_inj he
        have h8 : q1.1 = 8 := by have := h9.2.1; omega
        obtain ⟨z1, z2⟩ := h9.2.2.2.2.2.2 h8
        rw [List.length_cons] at a4
        refine ⟨⟨by rw [z1, z2]; rfl, by omega, h3, h4, ?_, fun z => by cases z⟩, fun x hx => a6 x (List.mem_cons_of_mem _ hx)⟩
        rw [if_neg (by decide)]
        omega
theorem uStep_bad {k p : Nat} (he : uStep T n nm lim (q :: S) w e u c = mF k p) : k ≠ 0 ∧ k < 100 := by
  have mb : ∀ {e k p}, mBad T n e = mF k p → k ≠ 0 ∧ k < 100 := by
    intro e k p h
    have h := Sum.inl.inj h
    injection h with h1 h2
    rw [← h1]; exact mis_nz T n e
  have uc : ∀ {h v e u}, uCon T n h v (q :: S) w e u c = mF k p → k ≠ 0 ∧ k < 100 := by
    intro h v e u he
    unfold uCon at he
    by_cases ho : uOp h
    · rw [if_pos ho] at he
      by_cases h40 : h = 40
      · rw [if_pos h40] at he; exact (mF_ne he.symm).elim
      · rw [if_neg h40] at he
        by_cases hk : tK T n e = 40
        · rw [if_pos hk] at he; exact (mF_ne he.symm).elim
        · rw [if_neg hk] at he; exact mb he
    · rw [if_neg ho] at he; exact (mF_ne he.symm).elim
  unfold uStep at he
  by_cases hn : (eTop (q :: S) ≤ 3 ∨ 7 ≤ eTop (q :: S)) ∧ tK T n e = 267
  · rw [if_pos hn] at he
    by_cases h7 : w = 7
    · rw [if_pos h7] at he; exact mb he
    · rw [if_neg h7] at he; exact (mF_ne he.symm).elim
  · rw [if_neg hn] at he
    by_cases hb : uH (tK T n e) = 0 ∨ u = lim ∨ (uOp (uH (tK T n e)) ∧ w = 7)
    · rw [if_pos hb] at he; exact mb he
    · rw [if_neg hb] at he
      by_cases hnm : uNm (uH (tK T n e))
      · rw [if_pos hnm] at he
        unfold uNam at he
        by_cases hk : tK T n (tE T n e) = 273
        · rw [if_pos hk] at he
          cases ho : nm (tV T n (tE T n e)) with
          | none =>
            rw [ho] at he
            have h := Sum.inl.inj he
            injection h with h1 h2
            rw [← h1]; decide
          | some k' => rw [ho] at he; exact uc he
        · rw [if_neg hk] at he; exact mb he
      · rw [if_neg hnm] at he; exact uc he
theorem bStep_bad {k p : Nat} (he : bStep T n (q :: S) w e u c = mF k p) : k ≠ 0 ∧ k < 100 := by
  have mb : ∀ {e k p}, mBad T n e = mF k p → k ≠ 0 ∧ k < 100 := by
    intro e k p h
    have h := Sum.inl.inj h
    injection h with h1 h2
    rw [← h1]; exact mis_nz T n e
  unfold bStep at he
  by_cases hc : rkH (tK T n e) = 4 ∧ bCmp (q :: S)
  · rw [if_pos hc] at he; exact mb he
  · rw [if_neg hc] at he
    unfold bRest at he
    by_cases hr : 0 < rkH (tK T n e)
    · rw [if_pos hr] at he; exact (mF_ne he.symm).elim
    · rw [if_neg hr] at he
      cases hp : (bPop (rkH (tK T n e)) (q :: S) w c).1 with
      | nil => rw [hp] at he; exact (mF_ne he.symm).elim
      | cons q1 S1 =>
        rw [hp] at he
        rw [bEnd_c] at he
        by_cases h7 : q1.1 = 7
        · rw [if_pos h7] at he
          by_cases hk : tK T n e = 41
          · rw [if_pos hk] at he; exact (mF_ne he.symm).elim
          · rw [if_neg hk] at he; exact mb he
        · rw [if_neg h7] at he; exact (mF_ne he.symm).elim
end OK
abbrev gw_X12_f (d : Nat) (Q : zQt) (pc : Nat) (lv : zV) (st : List Value) (I : zI) (L : zL) (P : zP) : Prop := zW zm_X12_f (zRm d 0 0) 0 0 Q pc lv st I L P 205 0 0
abbrev v_X12_f_20 (d : Nat) (Q : zQt) (x1 : Int32) (I : zI) (L : zL) (P : zP) : Prop :=
  (((bP (I 160 4 = 0)) = 0 →
    Q none I L P 205
  ) ∧ (¬ (bP (I 160 4 = 0)) = 0 →
    (((I 160 34) ≤ 0 →
      Q none I L P 205
    ) ∧ (¬ (I 160 34) ≤ 0 →
      ((x1 = 0 →
        zMi zm_X12_behindUnit d [.ref 160] I L P (fun r19 I15 L16 P17 =>
          gw_X12_f (d + 1) Q 20 [some (.ref 160), some (.int r19)] [] I15 L16 P17
        )
      ) ∧ (¬ x1 = 0 →
        zMi zm_X12_unit d [.ref 160] I L P (fun r24 I20 L21 P22 =>
          gw_X12_f (d + 1) Q 20 [some (.ref 160), some (.int r24)] [] I20 L21 P22
        )
      ))
    ))
  ))
set_option maxRecDepth 20000 in
theorem g_X12_f_20 {d : Nat} {Q : zQt} {x1 : Int32} {I : zI} {L : zL} {P : zP} (hP : zPk P) (hv : v_X12_f_20 d Q x1 I L P) : gw_X12_f (d + 1) Q 20 [some (.ref 160), some (.int x1)] [] I L P := by
  unfold v_X12_f_20 at hv
  refine z_aload_n dX12_f_20 rfl ?_
  refine z_callV (As := []) (st := []) dX12_f_21 zl_X12_233 zv_X12_isGood (by decide) rfl zn_160 zo_160 rfl rfl (Nat.le_of_ble_eq_true rfl) ⟨Nat.le_refl _, Nat.le_refl _⟩ ⟨Nat.le_refl _, Nat.le_refl _⟩ (sp_X12_isGood hP (K := fun r I' L' P' => bP (I 160 4 = 0) = r ∧ I = I' ∧ L = L' ∧ P = P') ⟨rfl, rfl, rfl, rfl⟩) (fun v1 I2 L2 P2 nx1 q11 => ?_)
  obtain ⟨rfl, r10, rfl, rfl, rfl, rfl, rfl⟩ := q11
  refine z_if_eq (tgt := 53) dX12_f_24 (by decide) (fun q12 => ?_) (fun q12 => ?_)
  · have hv := hv.1 q12
    exact z_return dX12_f_53 rfl (Nat.le_refl _) (Nat.le_refl _) hv
  · have hv := hv.2 q12
    refine z_aload_n dX12_f_27 rfl ?_
    refine z_getI dX12_f_28 zf_X12_311 zn_160 zo_160 (fun _ _ _ _ _ => rfl) ?_
    refine z_if_le (tgt := 53) dX12_f_31 (by decide) (fun q13 => ?_) (fun q13 => ?_)
    · have hv := hv.1 q13
      exact z_return dX12_f_53 rfl (Nat.le_refl _) (Nat.le_refl _) hv
    · have hv := hv.2 q13
      refine z_iload_n dX12_f_34 rfl ?_
      refine z_if_eq (tgt := 45) dX12_f_35 (by decide) (fun q14 => ?_) (fun q14 => ?_)
      · have hv := hv.1 q14
        refine z_aload_n dX12_f_45 rfl ?_
        refine z_callV (As := []) (st := []) dX12_f_46 zl_X12_324 zv_X12_behindUnit (by decide) rfl zn_160 zo_160 rfl rfl (Nat.le_of_ble_eq_true rfl) ⟨Nat.le_refl _, Nat.le_refl _⟩ ⟨Nat.le_refl _, Nat.le_refl _⟩ hv (fun v1 I15 L16 P17 nx1 q18 => ?_)
        obtain ⟨rfl, r19, rfl, hv⟩ := q18
        refine z_istore_n (lv2 := [some (.ref 160), some (.int r19)]) dX12_f_49 (by decide) rfl rfl ?_
        refine z_goto (tgt := 20) dX12_f_50 (by decide) ?_
        exact hv
      · have hv := hv.2 q14
        refine z_aload_n dX12_f_38 rfl ?_
        refine z_callV (As := []) (st := []) dX12_f_39 zl_X12_321 zv_X12_unit (by decide) rfl zn_160 zo_160 rfl rfl (Nat.le_of_ble_eq_true rfl) ⟨Nat.le_refl _, Nat.le_refl _⟩ ⟨Nat.le_refl _, Nat.le_refl _⟩ hv (fun v1 I20 L21 P22 nx1 q23 => ?_)
        obtain ⟨rfl, r24, rfl, hv⟩ := q23
        refine z_goto (tgt := 49) dX12_f_42 (by decide) ?_
        refine z_istore_n (lv2 := [some (.ref 160), some (.int r24)]) dX12_f_49 (by decide) rfl rfl ?_
        refine z_goto (tgt := 20) dX12_f_50 (by decide) ?_
        exact hv
abbrev v_X12_f (d : Nat) (Q : zQt)  (I : zI) (L : zL) (P : zP) : Prop :=
  ∀ I1 : zI, I1 = zuI I 160 34 0 →
  ∀ I3 : zI, I3 = zuI I1 160 33 0 →
  zMv zm_X12_pushE d [.ref 160, .int 8, .int 0, .int 0] I3 L P (fun I5 L6 P7 =>
    gw_X12_f (d + 1) Q 20 [some (.ref 160), some (.int 1)] [] I5 L6 P7
  )
set_option maxRecDepth 20000 in
theorem g_X12_f {d : Nat} {Q : zQt}  {I : zI} {L : zL} {P : zP} (hP : zPk P) (hv : v_X12_f d Q  I L P) : zM zm_X12_f (d + 1) 0 0 [.ref 160] I L P 205 Q := by
  unfold v_X12_f at hv
  refine zM_of (lv0 := [some (.ref 160), none]) (by decide +kernel) (Nat.le_of_ble_eq_true rfl) rfl ?_
  refine z_aload_n dX12_f_0 rfl ?_
  refine z_iconst (v := 0) dX12_f_1 (by decide) ?_
  refine z_putI dX12_f_2 zf_X12_311 zn_160 zo_160 (Or.inl rfl) (fun _ _ _ _ _ => rfl) rfl rfl (z_nmI (fun I1 e2 => ?_))
  have hv := hv I1 e2
  refine z_aload_n dX12_f_5 rfl ?_
  refine z_iconst (v := 0) dX12_f_6 (by decide) ?_
  refine z_putI dX12_f_7 zf_X12_314 zn_160 zo_160 (Or.inl rfl) (fun _ _ _ _ _ => rfl) rfl rfl (z_nmI (fun I3 e4 => ?_))
  have hv := hv I3 e4
  refine z_aload_n dX12_f_10 rfl ?_
  refine z_bipush (v := 8) dX12_f_11 (by decide) ?_
  refine z_iconst (v := 0) dX12_f_13 (by decide) ?_
  refine z_iconst (v := 0) dX12_f_14 (by decide) ?_
  refine z_callV (As := [.int 8, .int 0, .int 0]) (st := []) dX12_f_15 zl_X12_317 zv_X12_pushE (by decide) rfl zn_160 zo_160 rfl rfl (Nat.le_of_ble_eq_true rfl) ⟨Nat.le_refl _, Nat.le_refl _⟩ ⟨Nat.le_refl _, Nat.le_refl _⟩ hv (fun v1 I5 L6 P7 nx1 q8 => ?_)
  obtain ⟨rfl, rfl, hv⟩ := q8
  refine z_iconst (v := 1) dX12_f_18 (by decide) ?_
  refine z_istore_n (lv2 := [some (.ref 160), some (.int 1)]) dX12_f_19 (by decide) rfl rfl ?_
  exact hv
section FF
variable {d : Nat} {Q : zQt} {I0 : zI} {L0 : zL} {T : Nat → Int32} {n b R ua lim u0 : Nat} {p0 : Int32} {P : zP}
/-- what is wanted of the machine's end -/
def mR (I0 : zI) (L0 : zL) (T : Nat → Int32) (n b R ua u0 lim : Nat) (p0 : Int32) (K : zI → zL → Prop) : mS → Prop
  | .inl q => (q.1 ≠ 0 ∧ q.1 < 100) → ∀ I' L', mJ I0 L0 b R ua I' L' → I' 160 4 = nI q.1 → I' 160 5 = nI q.2 → pSg I' (I' 160 6) → K I' L'
  | .inr (wt, S, w, e, u, c) => mV u0 lim wt S w u c → ∀ I' L', mN I0 L0 T n b R ua 0 p0 I' L' S w e u c → K I' L'
theorem lp_X12_f_bad {x : Int32} {I : zI} {L : zL} {k p : Nat} (hP : zPk P) (hk : k ≠ 0 ∧ k < 100) (h : I 160 4 = nI k) (kk : Q none I L P 205) : gw_X12_f (d + 1) Q 20 [some (.ref 160), some (.int x)] [] I L P := by
  refine g_X12_f_20 hP ⟨fun _ => kk, fun q => absurd (bP_n.mp q) ?_⟩
  rw [h, nI_zero (by omega)]; exact hk.1
theorem lp_X12_f (hP : zPk P) (hC : cX I0 ua lim b R) (hR : R = 9 * (lim - u0) + 1) (hd : 4 ≤ d) {r : mS} (kk : mR I0 L0 T n b R ua u0 lim p0 (fun I' L' => Q none I' L' P 205) r) :
    ∀ f wt S w e u c, mRun T n (nmF I0 L0) lim f (mT wt S w e u c) = some r → mV u0 lim wt S w u c → ∀ I L, mN I0 L0 T n b R ua 0 p0 I L S w e u c → gw_X12_f (d + 1) Q 20 [some (.ref 160), some (.int (cond wt 1 0))] [] I L P := by
  have hlim := hC.2.2.2.2.1
  intro f
  induction f with
  | zero => intro wt S w e u c h; cases h
  | succ f ih =>
    intro wt S w e u c hr hv I L hm
    have hg : I 160 4 = 0 := hm.2.2.1.1
    have nx : ∀ s, mRun T n (nmF I0 L0) lim f s = some r → (∀ k p, s = mF k p → k ≠ 0 ∧ k < 100) → (∀ b' S' w' e' u' c', s = mT b' S' w' e' u' c' → mV u0 lim b' S' w' u' c') →
        mQ I0 L0 T n b R ua p0 (fun v I' L' P' nx' => nx' = 205 ∧ ∃ r', v = some (.int r') ∧ gw_X12_f (d + 1) Q 20 [some (.ref 160), some (.int r')] [] I' L' P') P s := by
      intro s hs hb ho
      match s with
      | .inl (k, p) =>
        intro x I' L' j1 j2 j3 j4
        have hk := hb k p rfl
        refine ⟨rfl, x, rfl, lp_X12_f_bad (p := p) hP hk j2 ?_⟩
        cases f with
        | zero => cases hs
        | succ f =>
          have : r = mF k p := (Option.some.inj hs).symm
          subst this
          exact kk hk I' L' j1 j2 j3 j4
      | .inr (b', S', w', e', u', c') =>
        intro I' L' hm'
        exact ⟨rfl, _, rfl, ih b' S' w' e' u' c' hs (ho b' S' w' e' u' c' rfl) I' L' hm'⟩
    cases S with
    | nil =>
      have : r = mT wt [] w e u c := by
        cases wt <;> exact (Option.some.inj hr).symm
      subst this
      refine g_X12_f_20 hP ⟨fun q => absurd hg (bP_0.mp q), fun _ => ⟨fun _ => kk hv I L hm, fun q => absurd (by rw [hm.2.2.2.1.1]; decide) q⟩⟩
    | cons q S =>
      obtain ⟨⟨v1, v2, v3, v4, v5, v6⟩, v7⟩ := hv
      have hl := mW_st ⟨v1, v2, v3, v4, v5, v6⟩
      have hnt := sOk_nt v1
      have hpos : ¬ I 160 34 ≤ 0 := by
        rw [hm.2.2.2.1.1]
        rw [show (0 : Int32) = nI 0 from rfl, nI_leI (by omega) (by decide), List.length_cons]; omega
      rw [List.length_cons] at v5
      refine g_X12_f_20 hP ⟨fun z => absurd hg (bP_0.mp z), fun _ => ⟨fun z => absurd z hpos, fun _ => ⟨fun z => ?_, fun z => ?_⟩⟩⟩
      · cases wt with
        | true => exact absurd z (by decide)
        | false =>
          rw [if_neg (by decide)] at v5
          have hq := nx _ hr (fun k p => bStep_bad) (fun b' S' w' e' u' c' => bStep_ok ⟨⟨v1, v2, v3, v4, by rw [if_neg (by decide), List.length_cons]; exact v5, v6⟩, v7⟩)
          have hc : c.length + S.length < R := by
            have : 9 * (u - u0) ≤ 9 * (lim - u0) := Nat.mul_le_mul_left _ (by omega)
            omega
          exact sp_X12_behindUnit hP hC (by omega) hc v1 (by omega) v7 hd hm hq
      · cases wt with
        | false => exact absurd rfl z
        | true =>
          rw [if_pos rfl] at v5
          have hq := nx _ hr (fun k p => uStep_bad) (fun b' S' w' e' u' c' => uStep_ok ⟨⟨v1, v2, v3, v4, by rw [if_pos rfl, List.length_cons]; exact v5, v6⟩, v7⟩)
          have hc : u < lim → c.length < R := by
            intro hu
            have : 9 * (u - u0) + 9 ≤ 9 * (lim - u0) := by omega
            omega
          exact sp_X12_unit hP hC (by omega) v2 hc v4 (sOk_ne v1).2.1 hd hm hq
/-- a formula is read from the token e on -/
theorem sp_X12_f {I : zI} {L : zL} {e : Nat} (hP : zPk P) (hC : cX I ua lim b R) (hR : R = 9 * (lim - u0) + 1) (hu : u0 ≤ lim) (hg : I 160 4 = 0) (hp : pS T n I L e) (h32 : I 160 32 = nI b) (h166 : I 166 ua = nI u0) (hd : 5 ≤ d) {r : mS} (hr : mEv T n (nmF I L) lim (mT true [(8, 0, 0)] 0 e u0 []) r) {K : zI → zL → zP → Prop}
    (kk : mR I L T n b R ua u0 lim (I 160 5) (fun I' L' => K I' L' P) r) : zMv zm_X12_f d [.ref 160] I L P K := by
  obtain ⟨d, rfl⟩ : ∃ e, d = e + 1 := ⟨d - 1, by omega⟩
  obtain ⟨f, hr⟩ := hr
  refine g_X12_f hP (fun I1 e1 I2 e2 => ?_)
  subst e1
  have hf : zFr [] [33, 34] I I2 := by rw [e2]; exact zFr_s (zFr_s (zFr_rf _ _ _) (by decide)) (by decide)
  have s34 : I2 160 34 = nI 0 := by rw [e2, zuI_o (by decide), zuI_v]; rfl
  have s33 : I2 160 33 = nI 0 := by rw [e2, zuI_v]; rfl
  have hm : mN I L T n b R ua 0 (I 160 5) I2 L [] 0 e u0 [] := by
    refine ⟨mJ_sl (mJ_rf I L b R ua) (zFr_wk hf (by decide) (by decide)) (zLn_rf L), pS_fr hp hf (by decide) (by decide) (by decide) (by decide) (by decide) (by decide) rfl, ⟨by rw [hf.2 4 (by decide)]; exact hg, hf.2 5 (by decide)⟩, ⟨s34, trivial⟩, s33, ⟨by rw [hf.2 32 (by decide)]; exact h32, rfl⟩, by rw [hf.1 166 (by decide) (by decide)]; exact h166⟩
  refine mN_pu (a := 8) (s := 0) hP (by decide) hm (fun I3 h3 => ?_)
  have key := lp_X12_f (d := d) (Q := fun v I' L' P' nx' => nx' = 205 ∧ v = none ∧ K I' L' P') (r := r) hP hC hR (by omega) (p0 := I 160 5) ?_ f true [(8, 0, 0)] 0 e u0 [] hr ⟨⟨Or.inl ⟨rfl, rfl, rfl⟩, by decide, Nat.le_refl _, hu, ?_, fun _ => List.cons_ne_nil _ _⟩, fun x hx => ?_⟩ I3 L h3
  · exact key
  · revert kk
    match r with
    | .inl q => exact fun kk hk I' L' a b c e => qv (kk hk I' L' a b c e)
    | .inr (wt, S, w, e, u, c) => exact fun kk hv I' L' a => qv (kk hv I' L' a)
  · rw [if_pos rfl, Nat.sub_self]; decide
  · rcases List.mem_cons.mp hx with z | z
    · rw [z]; decide
    · cases z
end FF
