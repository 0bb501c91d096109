/-! ===== the model: frames ===== -/
/-- nothing but these cells, and these slots of the model, has changed -/
def zFr (cs sl : List Nat) (I0 I : zI) : Prop := (∀ a, a ∉ cs → a ≠ 160 → I a = I0 a) ∧ ∀ k, k ∉ sl → I 160 k = I0 160 k
theorem zFr_rf (cs sl : List Nat) (I : zI) : zFr cs sl I I := ⟨fun _ _ _ => rfl, fun _ _ => rfl⟩
theorem zFr_tr {cs sl : List Nat} {I0 I1 I2 : zI} (h1 : zFr cs sl I0 I1) (h2 : zFr cs sl I1 I2) : zFr cs sl I0 I2 := ⟨fun a ha hb => (h2.1 a ha hb).trans (h1.1 a ha hb), fun k hk => (h2.2 k hk).trans (h1.2 k hk)⟩
theorem zFr_wk {cs sl cs' sl' : List Nat} {I0 I1 : zI} (h1 : zFr cs sl I0 I1) (hc : ∀ a ∈ cs, a ∈ cs') (hs : ∀ a ∈ sl, a ∈ sl') : zFr cs' sl' I0 I1 := ⟨fun a ha hb => h1.1 a (fun q => ha (hc a q)) hb, fun k hk => h1.2 k (fun q => hk (hs k q))⟩
theorem zFr_c {cs sl : List Nat} {I0 I : zI} {c k : Nat} {v : Int32} (h : zFr cs sl I0 I) (hc : c ∈ cs) (h0 : c ≠ 160) : zFr cs sl I0 (zuI I c k v) :=
  ⟨fun a ha hb => (zuI_ne (show a ≠ c from fun e => ha (by rw [e]; exact hc))).trans (h.1 a ha hb), fun j hj => by rw [zuI_ne (Ne.symm h0)]; exact h.2 j hj⟩
theorem zFr_s {cs sl : List Nat} {I0 I : zI} {k : Nat} {v : Int32} (h : zFr cs sl I0 I) (hc : k ∈ sl) : zFr cs sl I0 (zuI I 160 k v) :=
  ⟨fun a ha hb => (zuI_ne hb).trans (h.1 a ha hb), fun j hj => by rw [zuI_at, pk_un (show j ≠ k from fun e => hj (by rw [e]; exact hc))]; exact h.2 j hj⟩
theorem zFr_a {cs sl : List Nat} {I0 I : zI} {c : Nat} {f : Nat → Int32} (h : zFr cs sl I0 I) (hc : c ∈ cs) (h0 : c ≠ 160) : zFr cs sl I0 (zaI I c f) :=
  ⟨fun a ha hb => (zaI_ne (show a ≠ c from fun e => ha (by rw [e]; exact hc))).trans (h.1 a ha hb), fun j hj => by rw [zaI_ne (Ne.symm h0)]; exact h.2 j hj⟩
theorem zuI_v (I : zI) (a k : Nat) (v : Int32) : zuI I a k v a k = v := by rw [zuI_at, pk_us]
theorem zuI_o {I : zI} {a k j : Nat} {v : Int32} (h : j ≠ k) : zuI I a k v a j = I a j := by rw [zuI_at, pk_un h]
section VFR
variable {cs sl : List Nat} {I0 I : zI} (h : zFr cs sl I0 I)
theorem vB_fr (h : zFr cs sl I0 I) (h1 : 28 ∉ sl) : vB I = vB I0 := by unfold vB; rw [h.2 28 h1]
theorem vNp_fr (h : zFr cs sl I0 I) (h1 : 28 ∉ sl) (h2 : 163 ∉ cs) : vNp I = vNp I0 := by unfold vNp; rw [vB_fr h h1, h.1 163 h2 (by decide)]
theorem vN_fr (h : zFr cs sl I0 I) (h1 : 28 ∉ sl) (h2 : 163 ∉ cs) : vN I = vN I0 := by unfold vN; rw [vNp_fr h h1 h2]
theorem MB_fr (h : zFr cs sl I0 I) (h1 : 28 ∉ sl) (h2 : 163 ∉ cs) (hm : MB I0) : MB I := by
  unfold MB
  rw [vNp_fr h h1 h2, vB_fr h h1, h.2 28 h1, h.1 163 h2 (by decide)]
  exact hm
theorem vSee_fr (h : zFr cs sl I0 I) (h1 : 28 ∉ sl) (h2 : 163 ∉ cs) (h3 : 168 ∉ cs) (p : Nat) : vSee I p = vSee I0 p := by unfold vSee; rw [vN_fr h h1 h2, vB_fr h h1, h.1 168 h3 (by decide)]
theorem vNw_fr (h : zFr cs sl I0 I) (h1 : 38 ∉ sl) : vNw I = vNw I0 := by unfold vNw; rw [h.2 38 h1]
theorem vWt_fr (h : zFr cs sl I0 I) (h1 : 182 ∉ cs) (k : Nat) : vWt I k = vWt I0 k := by unfold vWt; rw [h.1 182 h1 (by decide)]
theorem vLike_fr (h : zFr cs sl I0 I) (h1 : 28 ∉ sl) (h2 : 163 ∉ cs) (h3 : 168 ∉ cs) (h4 : 38 ∉ sl) (h5 : 182 ∉ cs) (h6 : 181 ∉ cs) (p a b : Nat) : vLike I p a b = vLike I0 p a b := by
  unfold vLike
  rw [vSee_fr h h1 h2 h3, vNw_fr h h4, h.1 181 h6 (by decide)]
  have : ∀ k, vWt I k = vWt I0 k := vWt_fr h h5
  simp only [this]
theorem MS_fr (h : zFr cs sl I0 I) (h1 : 28 ∉ sl) (h2 : 163 ∉ cs) (h3 : 168 ∉ cs) (hm : MS I0) : MS I := by
  unfold MS
  rw [vNp_fr h h1 h2, vB_fr h h1, h.1 168 h3 (by decide)]
  exact hm
theorem MW_fr (h : zFr cs sl I0 I) (h4 : 38 ∉ sl) (h5 : 182 ∉ cs) (hm : MW I0) : MW I := by
  unfold MW
  have : ∀ k, vWt I k = vWt I0 k := vWt_fr h h5
  simp only [this]
  rw [vNw_fr h h4, h.2 38 h4, h.1 182 h5 (by decide)]
  exact hm
end VFR
def vPoss (I : zI) (w : Nat) : Prop := ¬ I 180 w = 0
def popc (m : Nat) : Nat → Nat
  | 0 => 0
  | n + 1 => popc m n + (if m.testBit n = true then 1 else 0)
theorem popc_le (m : Nat) : ∀ n, popc m n ≤ n
  | 0 => Nat.le_refl 0
  | n + 1 => by
    have := popc_le m n
    unfold popc
    split <;> omega
abbrev gw_X12_bitsOf (d : Nat) (Q : zQt) (pc : Nat) (lv : zV) (st : List Value) (I : zI) (L : zL) (P : zP) : Prop := zW zm_X12_bitsOf (zRm d 0 0) 0 0 Q pc lv st I L P 205 0 0
abbrev v_X12_bitsOf_4 (d : Nat) (Q : zQt) (p1 : Int32) (x1 : Int32) (x2 : Int32) (I : zI) (L : zL) (P : zP) : Prop :=
  ((31 ≤ x2 →
    Q (some (.int x1)) I L P 205
  ) ∧ (¬ 31 ≤ x2 →
    gw_X12_bitsOf d Q 4 [some (.int p1), some (.int (x1 + ((p1 >>> (x2 &&& 31) : Int32) &&& 1 : Int32))), some (.int (x2 + 1))] [] I L P
  ))
set_option maxRecDepth 20000 in
theorem g_X12_bitsOf_4 {d : Nat} {Q : zQt} {p1 : Int32} {x1 : Int32} {x2 : Int32} {I : zI} {L : zL} {P : zP} (hP : zPk P) (hv : v_X12_bitsOf_4 d Q p1 x1 x2 I L P) : gw_X12_bitsOf d Q 4 [some (.int p1), some (.int x1), some (.int x2)] [] I L P := by
  unfold v_X12_bitsOf_4 at hv
  refine z_iload_n dX12_bitsOf_4 rfl ?_
  refine z_bipush (v := 31) dX12_bitsOf_5 (by decide) ?_
  refine z_icmp_ge (tgt := 24) dX12_bitsOf_7 (by decide) (fun q1 => ?_) (fun q1 => ?_)
  · have hv := hv.1 q1
    refine z_iload_n dX12_bitsOf_24 rfl ?_
    exact z_ireturn dX12_bitsOf_25 rfl rfl (Nat.le_refl _) (Nat.le_refl _) hv
  · have hv := hv.2 q1
    refine z_iload_n dX12_bitsOf_10 rfl ?_
    refine z_iload_n dX12_bitsOf_11 rfl ?_
    refine z_iload_n dX12_bitsOf_12 rfl ?_
    refine z_ishr dX12_bitsOf_13 ?_
    refine z_iconst (v := 1) dX12_bitsOf_14 (by decide) ?_
    refine z_iand dX12_bitsOf_15 ?_
    refine z_iadd dX12_bitsOf_16 ?_
    refine z_istore_n (lv2 := [some (.int p1), some (.int (x1 + ((p1 >>> (x2 &&& 31) : Int32) &&& 1 : Int32))), some (.int x2)]) dX12_bitsOf_17 (by decide) rfl rfl ?_
    refine z_iinc (v2 := x2 + 1) (lv2 := [some (.int p1), some (.int (x1 + ((p1 >>> (x2 &&& 31) : Int32) &&& 1 : Int32))), some (.int (x2 + 1))]) dX12_bitsOf_18 rfl (by rfl) (by decide) rfl rfl ?_
    refine z_goto (tgt := 4) dX12_bitsOf_21 (by decide) ?_
    exact hv
abbrev v_X12_bitsOf (d : Nat) (Q : zQt) (p1 : Int32) (I : zI) (L : zL) (P : zP) : Prop :=
  gw_X12_bitsOf d Q 4 [some (.int p1), some (.int 0), some (.int 0)] [] I L P
set_option maxRecDepth 20000 in
theorem g_X12_bitsOf {d : Nat} {Q : zQt} {p1 : Int32} {I : zI} {L : zL} {P : zP} (hP : zPk P) (hv : v_X12_bitsOf d Q p1 I L P) : zM zm_X12_bitsOf d 0 0 [.int p1] I L P 205 Q := by
  unfold v_X12_bitsOf at hv
  refine zM_of (lv0 := [some (.int p1), none, none]) (by decide +kernel) (Nat.le_of_ble_eq_true rfl) rfl ?_
  refine z_iconst (v := 0) dX12_bitsOf_0 (by decide) ?_
  refine z_istore_n (lv2 := [some (.int p1), some (.int 0), none]) dX12_bitsOf_1 (by decide) rfl rfl ?_
  refine z_iconst (v := 0) dX12_bitsOf_2 (by decide) ?_
  refine z_istore_n (lv2 := [some (.int p1), some (.int 0), some (.int 0)]) dX12_bitsOf_3 (by decide) rfl rfl ?_
  exact hv
theorem lp_X12_bitsOf {d : Nat} {Q : zQt} {I : zI} {L : zL} {P : zP} {m : Nat} (hP : zPk P) (hm : m < 2 ^ 31) (k : Q (some (.int (nI (popc m 31)))) I L P 205) :
    ∀ n i, i + n = 31 → gw_X12_bitsOf d Q 4 [some (.int (nI m)), some (.int (nI (popc m i))), some (.int (nI i))] [] I L P := by
  intro n
  induction n with
  | zero =>
    intro i hi
    have : i = 31 := by omega
    subst this
    exact g_X12_bitsOf_4 hP ⟨fun _ => k, fun q => absurd (by decide) q⟩
  | succ n ih =>
    intro i hi
    refine g_X12_bitsOf_4 hP ⟨fun q => absurd q (nI_ge (b := 31) (by omega) (by decide)), fun _ => ?_⟩
    rw [nx_bit hm (by omega)]
    have e : nI (popc m i) + bP (m.testBit i = true) = nI (popc m (i + 1)) := by
      show _ = nI (popc m i + (if m.testBit i = true then 1 else 0))
      by_cases h : m.testBit i = true
      · rw [bP_t h, if_pos h]; exact nI_1 _
      · rw [bP_f h, if_neg h]; simp
    rw [e, nI_1]
    exact ih (i + 1) (by omega)
theorem sp_X12_bitsOf {d : Nat} {I : zI} {L : zL} {P : zP} {m : Nat} (hP : zPk P) (hm : m < 2 ^ 31) {K : Int32 → zI → zL → zP → Prop} (k : K (nI (popc m 31)) I L P) : zMi zm_X12_bitsOf d [.int (nI m)] I L P K :=
  g_X12_bitsOf hP (lp_X12_bitsOf hP hm (qi k) 31 0 rfl)
def vTw (I : zI) : Nat := (I 167 (vB I)).toNatClampNeg
/-- the true world -/
def MT (I : zI) : Prop := vTw I < vN I ∧ I 167 (vB I) = nI (vTw I)
abbrev gw_X12_theTrue (d : Nat) (Q : zQt) (pc : Nat) (lv : zV) (st : List Value) (I : zI) (L : zL) (P : zP) : Prop := zW zm_X12_theTrue (zRm d 0 0) 0 0 Q pc lv st I L P 205 0 0
abbrev v_X12_theTrue (d : Nat) (Q : zQt)  (I : zI) (L : zL) (P : zP) : Prop :=
  vp_in (I 160 28) 2 ∧
  Q (some (.int (I 167 (I 160 28).toNatClampNeg))) I L P 205
set_option maxRecDepth 20000 in
theorem g_X12_theTrue {d : Nat} {Q : zQt}  {I : zI} {L : zL} {P : zP} (hP : zPk P) (hv : v_X12_theTrue d Q  I L P) : zM zm_X12_theTrue d 0 0 [.ref 160] I L P 205 Q := by
  unfold v_X12_theTrue at hv
  refine zM_of (lv0 := [some (.ref 160)]) (by decide +kernel) (Nat.le_of_ble_eq_true rfl) rfl ?_
  refine z_aload_n dX12_theTrue_0 rfl ?_
  refine z_getP dX12_theTrue_1 zf_X12_33 zn_160 zo_160 (fun _ _ _ _ _ => rfl) (hP 160 15 167 zp_160_15) ?_
  refine z_aload_n dX12_theTrue_4 rfl ?_
  refine z_getI dX12_theTrue_5 zf_X12_261 zn_160 zo_160 (fun _ _ _ _ _ => rfl) ?_
  obtain ⟨h1, hv⟩ := hv
  refine z_iaload dX12_theTrue_8 zn_167 zh_167 h1 ?_
  exact z_ireturn dX12_theTrue_9 rfl rfl (Nat.le_refl _) (Nat.le_refl _) hv
theorem sp_X12_theTrue {d : Nat} {I : zI} {L : zL} {P : zP} (hP : zPk P) (h : MB I) (ht : MT I) {K : Int32 → zI → zL → zP → Prop} (k : K (nI (vTw I)) I L P) : zMi zm_X12_theTrue d [.ref 160] I L P K :=
  g_X12_theTrue hP ⟨by rw [h.1.2]; exact nx_in h.1.1 (by decide), qi (by show K (I 167 (vB I)) I L P; rw [ht.2]; exact k)⟩
/-- a leaf's value -/
def sLf (c n g : Int32) (w : Nat) : Int32 := if c = 110 then n else if c = 109 then nI (popc w 31) else if c = 104 then ((nI w >>> (n &&& 31) : Int32) &&& 1 : Int32) else ((g >>> (n &&& 31) : Int32) &&& 1 : Int32)
abbrev gw_X12_plain (d : Nat) (Q : zQt) (pc : Nat) (lv : zV) (st : List Value) (I : zI) (L : zL) (P : zP) : Prop := zW zm_X12_plain (zRm d 0 0) 0 0 Q pc lv st I L P 205 0 0
abbrev v_X12_plain (d : Nat) (Q : zQt) (p1 : Int32) (p2 : Int32) (p3 : Int32) (I : zI) (L : zL) (P : zP) : Prop :=
  ((¬ p1 = 110 →
    ((¬ p1 = 109 →
      ((¬ p1 = 104 →
        Q (some (.int (((I 160 40) >>> (p2 &&& 31) : Int32) &&& 1 : Int32))) I L P 205
      ) ∧ (p1 = 104 →
        Q (some (.int ((p3 >>> (p2 &&& 31) : Int32) &&& 1 : Int32))) I L P 205
      ))
    ) ∧ (p1 = 109 →
      zMi zm_X12_bitsOf d [.int p3] I L P (fun r8 I4 L5 P6 =>
        Q (some (.int r8)) I4 L5 P6 205
      )
    ))
  ) ∧ (p1 = 110 →
    Q (some (.int p2)) I L P 205
  ))
set_option maxRecDepth 20000 in
theorem g_X12_plain {d : Nat} {Q : zQt} {p1 : Int32} {p2 : Int32} {p3 : Int32} {I : zI} {L : zL} {P : zP} (hP : zPk P) (hv : v_X12_plain d Q p1 p2 p3 I L P) : zM zm_X12_plain (d + 1) 0 0 [.ref 160, .int p1, .int p2, .int p3] I L P 205 Q := by
  unfold v_X12_plain at hv
  refine zM_of (lv0 := [some (.ref 160), some (.int p1), some (.int p2), some (.int p3)]) (by decide +kernel) (Nat.le_of_ble_eq_true rfl) rfl ?_
  refine z_iload_n dX12_plain_0 rfl ?_
  refine z_bipush (v := 110) dX12_plain_1 (by decide) ?_
  refine z_icmp_ne (tgt := 10) dX12_plain_3 (by decide) (fun q1 => ?_) (fun q1 => ?_)
  · have hv := hv.1 q1
    refine z_iload_n dX12_plain_10 rfl ?_
    refine z_bipush (v := 109) dX12_plain_11 (by decide) ?_
    refine z_icmp_ne (tgt := 23) dX12_plain_13 (by decide) (fun q2 => ?_) (fun q2 => ?_)
    · have hv := hv.1 q2
      refine z_iload_n dX12_plain_23 rfl ?_
      refine z_bipush (v := 104) dX12_plain_24 (by decide) ?_
      refine z_icmp_ne (tgt := 37) dX12_plain_26 (by decide) (fun q3 => ?_) (fun q3 => ?_)
      · have hv := hv.1 q3
        refine z_aload_n dX12_plain_37 rfl ?_
        refine z_getI dX12_plain_38 zf_X12_359 zn_160 zo_160 (fun _ _ _ _ _ => rfl) ?_
        refine z_iload_n dX12_plain_41 rfl ?_
        refine z_ishr dX12_plain_42 ?_
        refine z_iconst (v := 1) dX12_plain_43 (by decide) ?_
        refine z_iand dX12_plain_44 ?_
        exact z_ireturn dX12_plain_45 rfl rfl (Nat.le_refl _) (Nat.le_refl _) hv
      · have hv := hv.2 q3
        refine z_iload_n dX12_plain_29 rfl ?_
        refine z_iload_n dX12_plain_30 rfl ?_
        refine z_ishr dX12_plain_31 ?_
        refine z_iconst (v := 1) dX12_plain_32 (by decide) ?_
        refine z_iand dX12_plain_33 ?_
        refine z_goto (tgt := 45) dX12_plain_34 (by decide) ?_
        exact z_ireturn dX12_plain_45 rfl rfl (Nat.le_refl _) (Nat.le_refl _) hv
    · have hv := hv.2 q2
      refine z_iload_n dX12_plain_16 rfl ?_
      refine z_callS (As := [.int p3]) (st := []) dX12_plain_17 zl_X12_384 zs_X12_bitsOf rfl rfl (Nat.le_of_ble_eq_true rfl) ⟨Nat.le_refl _, Nat.le_refl _⟩ ⟨Nat.le_refl _, Nat.le_refl _⟩ hv (fun v1 I4 L5 P6 nx1 q7 => ?_)
      obtain ⟨rfl, r8, rfl, hv⟩ := q7
      refine z_goto (tgt := 45) dX12_plain_20 (by decide) ?_
      exact z_ireturn dX12_plain_45 rfl rfl (Nat.le_refl _) (Nat.le_refl _) hv
  · have hv := hv.2 q1
    refine z_iload_n dX12_plain_6 rfl ?_
    refine z_goto (tgt := 45) dX12_plain_7 (by decide) ?_
    exact z_ireturn dX12_plain_45 rfl rfl (Nat.le_refl _) (Nat.le_refl _) hv
theorem sp_X12_plain {d : Nat} {I : zI} {L : zL} {P : zP} {c n : Int32} {w : Nat} (hP : zPk P) (hw : w < 256) (hd : 1 ≤ d) {K : Int32 → zI → zL → zP → Prop} (k : K (sLf c n (I 160 40) w) I L P) : zMi zm_X12_plain d [.ref 160, .int c, .int n, .int (nI w)] I L P K := by
  obtain ⟨d, rfl⟩ : ∃ e, d = e + 1 := ⟨d - 1, by omega⟩
  unfold sLf at k
  refine g_X12_plain hP ⟨fun q => ⟨fun q2 => ⟨fun q3 => qi ?_, fun q3 => qi ?_⟩, fun q2 => sp_X12_bitsOf hP (by omega) (qi ?_)⟩, fun q => qi ?_⟩
  · rwa [if_neg q, if_neg q2, if_neg q3] at k
  · rwa [if_neg q, if_neg q2, if_pos q3] at k
  · rwa [if_neg q, if_pos q2] at k
  · rwa [if_pos q] at k
/-- two values joined -/
noncomputable def sTwo (c a b : Int32) : Int32 := if c = 38 then bP (¬ a = 0 ∧ ¬ b = 0) else if c = 42 then a * b else if c = 43 then a + b else if c = 45 then a - b else if c = 47 then (if b = 0 then 0 else a / b) else if c = 60 then bP (¬ b ≤ a) else if c = 61 then bP (a = b) else if c = 62 then bP (¬ a ≤ b) else bP (¬ a = 0 ∨ ¬ b = 0)
abbrev gw_X12_two (d : Nat) (Q : zQt) (pc : Nat) (lv : zV) (st : List Value) (I : zI) (L : zL) (P : zP) : Prop := zW zm_X12_two (zRm d 0 0) 0 0 Q pc lv st I L P 205 0 0
abbrev v_X12_two (d : Nat) (Q : zQt) (p1 : Int32) (p2 : Int32) (p3 : Int32) (I : zI) (L : zL) (P : zP) : Prop :=
  (p1 = 38 →
    ((p2 = 0 →
      Q (some (.int 0)) I L P 205
    ) ∧ (¬ p2 = 0 →
      ((p3 = 0 →
        Q (some (.int 0)) I L P 205
      ) ∧ (¬ p3 = 0 →
        Q (some (.int 1)) I L P 205
      ))
    ))
  ) ∧
  (p1 = 42 →
    Q (some (.int (p2 * p3))) I L P 205
  ) ∧
  (p1 = 43 →
    Q (some (.int (p2 + p3))) I L P 205
  ) ∧
  (p1 = 45 →
    Q (some (.int (p2 - p3))) I L P 205
  ) ∧
  (p1 = 47 →
    ((¬ p3 = 0 →
      ¬ p3 = 0 ∧
      Q (some (.int (p2 / p3))) I L P 205
    ) ∧ (p3 = 0 →
      Q (some (.int 0)) I L P 205
    ))
  ) ∧
  (p1 = 60 →
    ((p3 ≤ p2 →
      Q (some (.int 0)) I L P 205
    ) ∧ (¬ p3 ≤ p2 →
      Q (some (.int 1)) I L P 205
    ))
  ) ∧
  (p1 = 61 →
    ((¬ p2 = p3 →
      Q (some (.int 0)) I L P 205
    ) ∧ (p2 = p3 →
      Q (some (.int 1)) I L P 205
    ))
  ) ∧
  (p1 = 62 →
    ((p2 ≤ p3 →
      Q (some (.int 0)) I L P 205
    ) ∧ (¬ p2 ≤ p3 →
      Q (some (.int 1)) I L P 205
    ))
  ) ∧
  (¬ p1 = 38 → ¬ p1 = 42 → ¬ p1 = 43 → ¬ p1 = 45 → ¬ p1 = 47 → ¬ p1 = 60 → ¬ p1 = 61 → ¬ p1 = 62 →
    ((¬ p2 = 0 →
      Q (some (.int 1)) I L P 205
    ) ∧ (p2 = 0 →
      ((p3 = 0 →
        Q (some (.int 0)) I L P 205
      ) ∧ (¬ p3 = 0 →
        Q (some (.int 1)) I L P 205
      ))
    ))
  )
set_option maxRecDepth 20000 in
theorem g_X12_two {d : Nat} {Q : zQt} {p1 : Int32} {p2 : Int32} {p3 : Int32} {I : zI} {L : zL} {P : zP} (hP : zPk P) (hv : v_X12_two d Q p1 p2 p3 I L P) : zM zm_X12_two d 0 0 [.int p1, .int p2, .int p3] I L P 205 Q := by
  unfold v_X12_two at hv
  refine zM_of (lv0 := [some (.int p1), some (.int p2), some (.int p3)]) (by decide +kernel) (Nat.le_of_ble_eq_true rfl) rfl ?_
  refine z_iload_n dX12_two_0 rfl ?_
  by_cases q10 : p1 = 38
  · have hv := hv.1 q10
    refine z_tableIn (off := 172) (tgt := 173) dX12_two_1 (by rw [q10]; decide) (by rw [q10]; decide) (by rw [q10]; decide) (by decide) ?_
    refine z_iload_n dX12_two_173 rfl ?_
    refine z_if_eq (tgt := 185) dX12_two_174 (by decide) (fun q1 => ?_) (fun q1 => ?_)
    · have hv := hv.1 q1
      refine z_iconst (v := 0) dX12_two_185 (by decide) ?_
      exact z_ireturn dX12_two_186 rfl rfl (Nat.le_refl _) (Nat.le_refl _) hv
    · have hv := hv.2 q1
      refine z_iload_n dX12_two_177 rfl ?_
      refine z_if_eq (tgt := 185) dX12_two_178 (by decide) (fun q2 => ?_) (fun q2 => ?_)
      · have hv := hv.1 q2
        refine z_iconst (v := 0) dX12_two_185 (by decide) ?_
        exact z_ireturn dX12_two_186 rfl rfl (Nat.le_refl _) (Nat.le_refl _) hv
      · have hv := hv.2 q2
        refine z_iconst (v := 1) dX12_two_181 (by decide) ?_
        refine z_goto (tgt := 186) dX12_two_182 (by decide) ?_
        exact z_ireturn dX12_two_186 rfl rfl (Nat.le_refl _) (Nat.le_refl _) hv
  by_cases q11 : p1 = 39
  · have hv := hv.2.2.2.2.2.2.2.2 (by rw [q11]; decide) (by rw [q11]; decide) (by rw [q11]; decide) (by rw [q11]; decide) (by rw [q11]; decide) (by rw [q11]; decide) (by rw [q11]; decide) (by rw [q11]; decide)
    refine z_tableIn (off := 186) (tgt := 187) dX12_two_1 (by rw [q11]; decide) (by rw [q11]; decide) (by rw [q11]; decide) (by decide) ?_
    refine z_iload_n dX12_two_187 rfl ?_
    refine z_if_ne (tgt := 195) dX12_two_188 (by decide) (fun q8 => ?_) (fun q8 => ?_)
    · have hv := hv.1 q8
      refine z_iconst (v := 1) dX12_two_195 (by decide) ?_
      refine z_goto (tgt := 200) dX12_two_196 (by decide) ?_
      exact z_ireturn dX12_two_200 rfl rfl (Nat.le_refl _) (Nat.le_refl _) hv
    · have hv := hv.2 q8
      refine z_iload_n dX12_two_191 rfl ?_
      refine z_if_eq (tgt := 199) dX12_two_192 (by decide) (fun q9 => ?_) (fun q9 => ?_)
      · have hv := hv.1 q9
        refine z_iconst (v := 0) dX12_two_199 (by decide) ?_
        exact z_ireturn dX12_two_200 rfl rfl (Nat.le_refl _) (Nat.le_refl _) hv
      · have hv := hv.2 q9
        refine z_iconst (v := 1) dX12_two_195 (by decide) ?_
        refine z_goto (tgt := 200) dX12_two_196 (by decide) ?_
        exact z_ireturn dX12_two_200 rfl rfl (Nat.le_refl _) (Nat.le_refl _) hv
  by_cases q12 : p1 = 40
  · have hv := hv.2.2.2.2.2.2.2.2 (by rw [q12]; decide) (by rw [q12]; decide) (by rw [q12]; decide) (by rw [q12]; decide) (by rw [q12]; decide) (by rw [q12]; decide) (by rw [q12]; decide) (by rw [q12]; decide)
    refine z_tableIn (off := 186) (tgt := 187) dX12_two_1 (by rw [q12]; decide) (by rw [q12]; decide) (by rw [q12]; decide) (by decide) ?_
    refine z_iload_n dX12_two_187 rfl ?_
    refine z_if_ne (tgt := 195) dX12_two_188 (by decide) (fun q8 => ?_) (fun q8 => ?_)
    · have hv := hv.1 q8
      refine z_iconst (v := 1) dX12_two_195 (by decide) ?_
      refine z_goto (tgt := 200) dX12_two_196 (by decide) ?_
      exact z_ireturn dX12_two_200 rfl rfl (Nat.le_refl _) (Nat.le_refl _) hv
    · have hv := hv.2 q8
      refine z_iload_n dX12_two_191 rfl ?_
      refine z_if_eq (tgt := 199) dX12_two_192 (by decide) (fun q9 => ?_) (fun q9 => ?_)
      · have hv := hv.1 q9
        refine z_iconst (v := 0) dX12_two_199 (by decide) ?_
        exact z_ireturn dX12_two_200 rfl rfl (Nat.le_refl _) (Nat.le_refl _) hv
      · have hv := hv.2 q9
        refine z_iconst (v := 1) dX12_two_195 (by decide) ?_
        refine z_goto (tgt := 200) dX12_two_196 (by decide) ?_
        exact z_ireturn dX12_two_200 rfl rfl (Nat.le_refl _) (Nat.le_refl _) hv
  by_cases q13 : p1 = 41
  · have hv := hv.2.2.2.2.2.2.2.2 (by rw [q13]; decide) (by rw [q13]; decide) (by rw [q13]; decide) (by rw [q13]; decide) (by rw [q13]; decide) (by rw [q13]; decide) (by rw [q13]; decide) (by rw [q13]; decide)
    refine z_tableIn (off := 186) (tgt := 187) dX12_two_1 (by rw [q13]; decide) (by rw [q13]; decide) (by rw [q13]; decide) (by decide) ?_
    refine z_iload_n dX12_two_187 rfl ?_
    refine z_if_ne (tgt := 195) dX12_two_188 (by decide) (fun q8 => ?_) (fun q8 => ?_)
    · have hv := hv.1 q8
      refine z_iconst (v := 1) dX12_two_195 (by decide) ?_
      refine z_goto (tgt := 200) dX12_two_196 (by decide) ?_
      exact z_ireturn dX12_two_200 rfl rfl (Nat.le_refl _) (Nat.le_refl _) hv
    · have hv := hv.2 q8
      refine z_iload_n dX12_two_191 rfl ?_
      refine z_if_eq (tgt := 199) dX12_two_192 (by decide) (fun q9 => ?_) (fun q9 => ?_)
      · have hv := hv.1 q9
        refine z_iconst (v := 0) dX12_two_199 (by decide) ?_
        exact z_ireturn dX12_two_200 rfl rfl (Nat.le_refl _) (Nat.le_refl _) hv
      · have hv := hv.2 q9
        refine z_iconst (v := 1) dX12_two_195 (by decide) ?_
        refine z_goto (tgt := 200) dX12_two_196 (by decide) ?_
        exact z_ireturn dX12_two_200 rfl rfl (Nat.le_refl _) (Nat.le_refl _) hv
  by_cases q14 : p1 = 42
  · have hv := hv.2.1 q14
    refine z_tableIn (off := 123) (tgt := 124) dX12_two_1 (by rw [q14]; decide) (by rw [q14]; decide) (by rw [q14]; decide) (by decide) ?_
    refine z_iload_n dX12_two_124 rfl ?_
    refine z_iload_n dX12_two_125 rfl ?_
    refine z_imul dX12_two_126 ?_
    exact z_ireturn dX12_two_127 rfl rfl (Nat.le_refl _) (Nat.le_refl _) hv
  by_cases q15 : p1 = 43
  · have hv := hv.2.2.1 q15
    refine z_tableIn (off := 115) (tgt := 116) dX12_two_1 (by rw [q15]; decide) (by rw [q15]; decide) (by rw [q15]; decide) (by decide) ?_
    refine z_iload_n dX12_two_116 rfl ?_
    refine z_iload_n dX12_two_117 rfl ?_
    refine z_iadd dX12_two_118 ?_
    exact z_ireturn dX12_two_119 rfl rfl (Nat.le_refl _) (Nat.le_refl _) hv
  by_cases q16 : p1 = 44
  · have hv := hv.2.2.2.2.2.2.2.2 (by rw [q16]; decide) (by rw [q16]; decide) (by rw [q16]; decide) (by rw [q16]; decide) (by rw [q16]; decide) (by rw [q16]; decide) (by rw [q16]; decide) (by rw [q16]; decide)
    refine z_tableIn (off := 186) (tgt := 187) dX12_two_1 (by rw [q16]; decide) (by rw [q16]; decide) (by rw [q16]; decide) (by decide) ?_
    refine z_iload_n dX12_two_187 rfl ?_
    refine z_if_ne (tgt := 195) dX12_two_188 (by decide) (fun q8 => ?_) (fun q8 => ?_)
    · have hv := hv.1 q8
      refine z_iconst (v := 1) dX12_two_195 (by decide) ?_
      refine z_goto (tgt := 200) dX12_two_196 (by decide) ?_
      exact z_ireturn dX12_two_200 rfl rfl (Nat.le_refl _) (Nat.le_refl _) hv
    · have hv := hv.2 q8
      refine z_iload_n dX12_two_191 rfl ?_
      refine z_if_eq (tgt := 199) dX12_two_192 (by decide) (fun q9 => ?_) (fun q9 => ?_)
      · have hv := hv.1 q9
        refine z_iconst (v := 0) dX12_two_199 (by decide) ?_
        exact z_ireturn dX12_two_200 rfl rfl (Nat.le_refl _) (Nat.le_refl _) hv
      · have hv := hv.2 q9
        refine z_iconst (v := 1) dX12_two_195 (by decide) ?_
        refine z_goto (tgt := 200) dX12_two_196 (by decide) ?_
        exact z_ireturn dX12_two_200 rfl rfl (Nat.le_refl _) (Nat.le_refl _) hv
  by_cases q17 : p1 = 45
  · have hv := hv.2.2.2.1 q17
    refine z_tableIn (off := 119) (tgt := 120) dX12_two_1 (by rw [q17]; decide) (by rw [q17]; decide) (by rw [q17]; decide) (by decide) ?_
    refine z_iload_n dX12_two_120 rfl ?_
    refine z_iload_n dX12_two_121 rfl ?_
    refine z_isub dX12_two_122 ?_
    exact z_ireturn dX12_two_123 rfl rfl (Nat.le_refl _) (Nat.le_refl _) hv
  by_cases q18 : p1 = 46
  · have hv := hv.2.2.2.2.2.2.2.2 (by rw [q18]; decide) (by rw [q18]; decide) (by rw [q18]; decide) (by rw [q18]; decide) (by rw [q18]; decide) (by rw [q18]; decide) (by rw [q18]; decide) (by rw [q18]; decide)
    refine z_tableIn (off := 186) (tgt := 187) dX12_two_1 (by rw [q18]; decide) (by rw [q18]; decide) (by rw [q18]; decide) (by decide) ?_
    refine z_iload_n dX12_two_187 rfl ?_
    refine z_if_ne (tgt := 195) dX12_two_188 (by decide) (fun q8 => ?_) (fun q8 => ?_)
    · have hv := hv.1 q8
      refine z_iconst (v := 1) dX12_two_195 (by decide) ?_
      refine z_goto (tgt := 200) dX12_two_196 (by decide) ?_
      exact z_ireturn dX12_two_200 rfl rfl (Nat.le_refl _) (Nat.le_refl _) hv
    · have hv := hv.2 q8
      refine z_iload_n dX12_two_191 rfl ?_
      refine z_if_eq (tgt := 199) dX12_two_192 (by decide) (fun q9 => ?_) (fun q9 => ?_)
      · have hv := hv.1 q9
        refine z_iconst (v := 0) dX12_two_199 (by decide) ?_
        exact z_ireturn dX12_two_200 rfl rfl (Nat.le_refl _) (Nat.le_refl _) hv
      · have hv := hv.2 q9
        refine z_iconst (v := 1) dX12_two_195 (by decide) ?_
        refine z_goto (tgt := 200) dX12_two_196 (by decide) ?_
        exact z_ireturn dX12_two_200 rfl rfl (Nat.le_refl _) (Nat.le_refl _) hv
  by_cases q19 : p1 = 47
  · have hv := hv.2.2.2.2.1 q19
    refine z_tableIn (off := 127) (tgt := 128) dX12_two_1 (by rw [q19]; decide) (by rw [q19]; decide) (by rw [q19]; decide) (by decide) ?_
    refine z_iload_n dX12_two_128 rfl ?_
    refine z_if_ne (tgt := 136) dX12_two_129 (by decide) (fun q3 => ?_) (fun q3 => ?_)
    · have hv := hv.1 q3
      refine z_iload_n dX12_two_136 rfl ?_
      refine z_iload_n dX12_two_137 rfl ?_
      obtain ⟨h4, hv⟩ := hv
      refine z_idiv dX12_two_138 h4 ?_
      exact z_ireturn dX12_two_139 rfl rfl (Nat.le_refl _) (Nat.le_refl _) hv
    · have hv := hv.2 q3
      refine z_iconst (v := 0) dX12_two_132 (by decide) ?_
      refine z_goto (tgt := 139) dX12_two_133 (by decide) ?_
      exact z_ireturn dX12_two_139 rfl rfl (Nat.le_refl _) (Nat.le_refl _) hv
  by_cases q20 : p1 = 48
  · have hv := hv.2.2.2.2.2.2.2.2 (by rw [q20]; decide) (by rw [q20]; decide) (by rw [q20]; decide) (by rw [q20]; decide) (by rw [q20]; decide) (by rw [q20]; decide) (by rw [q20]; decide) (by rw [q20]; decide)
    refine z_tableIn (off := 186) (tgt := 187) dX12_two_1 (by rw [q20]; decide) (by rw [q20]; decide) (by rw [q20]; decide) (by decide) ?_
    refine z_iload_n dX12_two_187 rfl ?_
    refine z_if_ne (tgt := 195) dX12_two_188 (by decide) (fun q8 => ?_) (fun q8 => ?_)
    · have hv := hv.1 q8
      refine z_iconst (v := 1) dX12_two_195 (by decide) ?_
      refine z_goto (tgt := 200) dX12_two_196 (by decide) ?_
      exact z_ireturn dX12_two_200 rfl rfl (Nat.le_refl _) (Nat.le_refl _) hv
    · have hv := hv.2 q8
      refine z_iload_n dX12_two_191 rfl ?_
      refine z_if_eq (tgt := 199) dX12_two_192 (by decide) (fun q9 => ?_) (fun q9 => ?_)
      · have hv := hv.1 q9
        refine z_iconst (v := 0) dX12_two_199 (by decide) ?_
        exact z_ireturn dX12_two_200 rfl rfl (Nat.le_refl _) (Nat.le_refl _) hv
      · have hv := hv.2 q9
        refine z_iconst (v := 1) dX12_two_195 (by decide) ?_
        refine z_goto (tgt := 200) dX12_two_196 (by decide) ?_
        exact z_ireturn dX12_two_200 rfl rfl (Nat.le_refl _) (Nat.le_refl _) hv
  by_cases q21 : p1 = 49
  · have hv := hv.2.2.2.2.2.2.2.2 (by rw [q21]; decide) (by rw [q21]; decide) (by rw [q21]; decide) (by rw [q21]; decide) (by rw [q21]; decide) (by rw [q21]; decide) (by rw [q21]; decide) (by rw [q21]; decide)
    refine z_tableIn (off := 186) (tgt := 187) dX12_two_1 (by rw [q21]; decide) (by rw [q21]; decide) (by rw [q21]; decide) (by decide) ?_
    refine z_iload_n dX12_two_187 rfl ?_
    refine z_if_ne (tgt := 195) dX12_two_188 (by decide) (fun q8 => ?_) (fun q8 => ?_)
    · have hv := hv.1 q8
      refine z_iconst (v := 1) dX12_two_195 (by decide) ?_
      refine z_goto (tgt := 200) dX12_two_196 (by decide) ?_
      exact z_ireturn dX12_two_200 rfl rfl (Nat.le_refl _) (Nat.le_refl _) hv
    · have hv := hv.2 q8
      refine z_iload_n dX12_two_191 rfl ?_
      refine z_if_eq (tgt := 199) dX12_two_192 (by decide) (fun q9 => ?_) (fun q9 => ?_)
      · have hv := hv.1 q9
        refine z_iconst (v := 0) dX12_two_199 (by decide) ?_
        exact z_ireturn dX12_two_200 rfl rfl (Nat.le_refl _) (Nat.le_refl _) hv
      · have hv := hv.2 q9
        refine z_iconst (v := 1) dX12_two_195 (by decide) ?_
        refine z_goto (tgt := 200) dX12_two_196 (by decide) ?_
        exact z_ireturn dX12_two_200 rfl rfl (Nat.le_refl _) (Nat.le_refl _) hv
  by_cases q22 : p1 = 50
  · have hv := hv.2.2.2.2.2.2.2.2 (by rw [q22]; decide) (by rw [q22]; decide) (by rw [q22]; decide) (by rw [q22]; decide) (by rw [q22]; decide) (by rw [q22]; decide) (by rw [q22]; decide) (by rw [q22]; decide)
    refine z_tableIn (off := 186) (tgt := 187) dX12_two_1 (by rw [q22]; decide) (by rw [q22]; decide) (by rw [q22]; decide) (by decide) ?_
    refine z_iload_n dX12_two_187 rfl ?_
    refine z_if_ne (tgt := 195) dX12_two_188 (by decide) (fun q8 => ?_) (fun q8 => ?_)
    · have hv := hv.1 q8
      refine z_iconst (v := 1) dX12_two_195 (by decide) ?_
      refine z_goto (tgt := 200) dX12_two_196 (by decide) ?_
      exact z_ireturn dX12_two_200 rfl rfl (Nat.le_refl _) (Nat.le_refl _) hv
    · have hv := hv.2 q8
      refine z_iload_n dX12_two_191 rfl ?_
      refine z_if_eq (tgt := 199) dX12_two_192 (by decide) (fun q9 => ?_) (fun q9 => ?_)
      · have hv := hv.1 q9
        refine z_iconst (v := 0) dX12_two_199 (by decide) ?_
        exact z_ireturn dX12_two_200 rfl rfl (Nat.le_refl _) (Nat.le_refl _) hv
      · have hv := hv.2 q9
        refine z_iconst (v := 1) dX12_two_195 (by decide) ?_
        refine z_goto (tgt := 200) dX12_two_196 (by decide) ?_
        exact z_ireturn dX12_two_200 rfl rfl (Nat.le_refl _) (Nat.le_refl _) hv
  by_cases q23 : p1 = 51
  · have hv := hv.2.2.2.2.2.2.2.2 (by rw [q23]; decide) (by rw [q23]; decide) (by rw [q23]; decide) (by rw [q23]; decide) (by rw [q23]; decide) (by rw [q23]; decide) (by rw [q23]; decide) (by rw [q23]; decide)
    refine z_tableIn (off := 186) (tgt := 187) dX12_two_1 (by rw [q23]; decide) (by rw [q23]; decide) (by rw [q23]; decide) (by decide) ?_
    refine z_iload_n dX12_two_187 rfl ?_
    refine z_if_ne (tgt := 195) dX12_two_188 (by decide) (fun q8 => ?_) (fun q8 => ?_)
    · have hv := hv.1 q8
      refine z_iconst (v := 1) dX12_two_195 (by decide) ?_
      refine z_goto (tgt := 200) dX12_two_196 (by decide) ?_
      exact z_ireturn dX12_two_200 rfl rfl (Nat.le_refl _) (Nat.le_refl _) hv
    · have hv := hv.2 q8
      refine z_iload_n dX12_two_191 rfl ?_
      refine z_if_eq (tgt := 199) dX12_two_192 (by decide) (fun q9 => ?_) (fun q9 => ?_)
      · have hv := hv.1 q9
        refine z_iconst (v := 0) dX12_two_199 (by decide) ?_
        exact z_ireturn dX12_two_200 rfl rfl (Nat.le_refl _) (Nat.le_refl _) hv
      · have hv := hv.2 q9
        refine z_iconst (v := 1) dX12_two_195 (by decide) ?_
        refine z_goto (tgt := 200) dX12_two_196 (by decide) ?_
        exact z_ireturn dX12_two_200 rfl rfl (Nat.le_refl _) (Nat.le_refl _) hv
  by_cases q24 : p1 = 52
  · have hv := hv.2.2.2.2.2.2.2.2 (by rw [q24]; decide) (by rw [q24]; decide) (by rw [q24]; decide) (by rw [q24]; decide) (by rw [q24]; decide) (by rw [q24]; decide) (by rw [q24]; decide) (by rw [q24]; decide)
    refine z_tableIn (off := 186) (tgt := 187) dX12_two_1 (by rw [q24]; decide) (by rw [q24]; decide) (by rw [q24]; decide) (by decide) ?_
    refine z_iload_n dX12_two_187 rfl ?_
    refine z_if_ne (tgt := 195) dX12_two_188 (by decide) (fun q8 => ?_) (fun q8 => ?_)
    · have hv := hv.1 q8
      refine z_iconst (v := 1) dX12_two_195 (by decide) ?_
      refine z_goto (tgt := 200) dX12_two_196 (by decide) ?_
      exact z_ireturn dX12_two_200 rfl rfl (Nat.le_refl _) (Nat.le_refl _) hv
    · have hv := hv.2 q8
      refine z_iload_n dX12_two_191 rfl ?_
      refine z_if_eq (tgt := 199) dX12_two_192 (by decide) (fun q9 => ?_) (fun q9 => ?_)
      · have hv := hv.1 q9
        refine z_iconst (v := 0) dX12_two_199 (by decide) ?_
        exact z_ireturn dX12_two_200 rfl rfl (Nat.le_refl _) (Nat.le_refl _) hv
      · have hv := hv.2 q9
        refine z_iconst (v := 1) dX12_two_195 (by decide) ?_
        refine z_goto (tgt := 200) dX12_two_196 (by decide) ?_
        exact z_ireturn dX12_two_200 rfl rfl (Nat.le_refl _) (Nat.le_refl _) hv
  by_cases q25 : p1 = 53
  · have hv := hv.2.2.2.2.2.2.2.2 (by rw [q25]; decide) (by rw [q25]; decide) (by rw [q25]; decide) (by rw [q25]; decide) (by rw [q25]; decide) (by rw [q25]; decide) (by rw [q25]; decide) (by rw [q25]; decide)
    refine z_tableIn (off := 186) (tgt := 187) dX12_two_1 (by rw [q25]; decide) (by rw [q25]; decide) (by rw [q25]; decide) (by decide) ?_
    refine z_iload_n dX12_two_187 rfl ?_
    refine z_if_ne (tgt := 195) dX12_two_188 (by decide) (fun q8 => ?_) (fun q8 => ?_)
    · have hv := hv.1 q8
      refine z_iconst (v := 1) dX12_two_195 (by decide) ?_
      refine z_goto (tgt := 200) dX12_two_196 (by decide) ?_
      exact z_ireturn dX12_two_200 rfl rfl (Nat.le_refl _) (Nat.le_refl _) hv
    · have hv := hv.2 q8
      refine z_iload_n dX12_two_191 rfl ?_
      refine z_if_eq (tgt := 199) dX12_two_192 (by decide) (fun q9 => ?_) (fun q9 => ?_)
      · have hv := hv.1 q9
        refine z_iconst (v := 0) dX12_two_199 (by decide) ?_
        exact z_ireturn dX12_two_200 rfl rfl (Nat.le_refl _) (Nat.le_refl _) hv
      · have hv := hv.2 q9
        refine z_iconst (v := 1) dX12_two_195 (by decide) ?_
        refine z_goto (tgt := 200) dX12_two_196 (by decide) ?_
        exact z_ireturn dX12_two_200 rfl rfl (Nat.le_refl _) (Nat.le_refl _) hv
  by_cases q26 : p1 = 54
  · have hv := hv.2.2.2.2.2.2.2.2 (by rw [q26]; decide) (by rw [q26]; decide) (by rw [q26]; decide) (by rw [q26]; decide) (by rw [q26]; decide) (by rw [q26]; decide) (by rw [q26]; decide) (by rw [q26]; decide)
    refine z_tableIn (off := 186) (tgt := 187) dX12_two_1 (by rw [q26]; decide) (by rw [q26]; decide) (by rw [q26]; decide) (by decide) ?_
    refine z_iload_n dX12_two_187 rfl ?_
    refine z_if_ne (tgt := 195) dX12_two_188 (by decide) (fun q8 => ?_) (fun q8 => ?_)
    · have hv := hv.1 q8
      refine z_iconst (v := 1) dX12_two_195 (by decide) ?_
      refine z_goto (tgt := 200) dX12_two_196 (by decide) ?_
      exact z_ireturn dX12_two_200 rfl rfl (Nat.le_refl _) (Nat.le_refl _) hv
    · have hv := hv.2 q8
      refine z_iload_n dX12_two_191 rfl ?_
      refine z_if_eq (tgt := 199) dX12_two_192 (by decide) (fun q9 => ?_) (fun q9 => ?_)
      · have hv := hv.1 q9
        refine z_iconst (v := 0) dX12_two_199 (by decide) ?_
        exact z_ireturn dX12_two_200 rfl rfl (Nat.le_refl _) (Nat.le_refl _) hv
      · have hv := hv.2 q9
        refine z_iconst (v := 1) dX12_two_195 (by decide) ?_
        refine z_goto (tgt := 200) dX12_two_196 (by decide) ?_
        exact z_ireturn dX12_two_200 rfl rfl (Nat.le_refl _) (Nat.le_refl _) hv
  by_cases q27 : p1 = 55
  · have hv := hv.2.2.2.2.2.2.2.2 (by rw [q27]; decide) (by rw [q27]; decide) (by rw [q27]; decide) (by rw [q27]; decide) (by rw [q27]; decide) (by rw [q27]; decide) (by rw [q27]; decide) (by rw [q27]; decide)
    refine z_tableIn (off := 186) (tgt := 187) dX12_two_1 (by rw [q27]; decide) (by rw [q27]; decide) (by rw [q27]; decide) (by decide) ?_
    refine z_iload_n dX12_two_187 rfl ?_
    refine z_if_ne (tgt := 195) dX12_two_188 (by decide) (fun q8 => ?_) (fun q8 => ?_)
    · have hv := hv.1 q8
      refine z_iconst (v := 1) dX12_two_195 (by decide) ?_
      refine z_goto (tgt := 200) dX12_two_196 (by decide) ?_
      exact z_ireturn dX12_two_200 rfl rfl (Nat.le_refl _) (Nat.le_refl _) hv
    · have hv := hv.2 q8
      refine z_iload_n dX12_two_191 rfl ?_
      refine z_if_eq (tgt := 199) dX12_two_192 (by decide) (fun q9 => ?_) (fun q9 => ?_)
      · have hv := hv.1 q9
        refine z_iconst (v := 0) dX12_two_199 (by decide) ?_
        exact z_ireturn dX12_two_200 rfl rfl (Nat.le_refl _) (Nat.le_refl _) hv
      · have hv := hv.2 q9
        refine z_iconst (v := 1) dX12_two_195 (by decide) ?_
        refine z_goto (tgt := 200) dX12_two_196 (by decide) ?_
        exact z_ireturn dX12_two_200 rfl rfl (Nat.le_refl _) (Nat.le_refl _) hv
  by_cases q28 : p1 = 56
  · have hv := hv.2.2.2.2.2.2.2.2 (by rw [q28]; decide) (by rw [q28]; decide) (by rw [q28]; decide) (by rw [q28]; decide) (by rw [q28]; decide) (by rw [q28]; decide) (by rw [q28]; decide) (by rw [q28]; decide)
    refine z_tableIn (off := 186) (tgt := 187) dX12_two_1 (by rw [q28]; decide) (by rw [q28]; decide) (by rw [q28]; decide) (by decide) ?_
    refine z_iload_n dX12_two_187 rfl ?_
    refine z_if_ne (tgt := 195) dX12_two_188 (by decide) (fun q8 => ?_) (fun q8 => ?_)
    · have hv := hv.1 q8
      refine z_iconst (v := 1) dX12_two_195 (by decide) ?_
      refine z_goto (tgt := 200) dX12_two_196 (by decide) ?_
      exact z_ireturn dX12_two_200 rfl rfl (Nat.le_refl _) (Nat.le_refl _) hv
    · have hv := hv.2 q8
      refine z_iload_n dX12_two_191 rfl ?_
      refine z_if_eq (tgt := 199) dX12_two_192 (by decide) (fun q9 => ?_) (fun q9 => ?_)
      · have hv := hv.1 q9
        refine z_iconst (v := 0) dX12_two_199 (by decide) ?_
        exact z_ireturn dX12_two_200 rfl rfl (Nat.le_refl _) (Nat.le_refl _) hv
      · have hv := hv.2 q9
        refine z_iconst (v := 1) dX12_two_195 (by decide) ?_
        refine z_goto (tgt := 200) dX12_two_196 (by decide) ?_
        exact z_ireturn dX12_two_200 rfl rfl (Nat.le_refl _) (Nat.le_refl _) hv
  by_cases q29 : p1 = 57
  · have hv := hv.2.2.2.2.2.2.2.2 (by rw [q29]; decide) (by rw [q29]; decide) (by rw [q29]; decide) (by rw [q29]; decide) (by rw [q29]; decide) (by rw [q29]; decide) (by rw [q29]; decide) (by rw [q29]; decide)
    refine z_tableIn (off := 186) (tgt := 187) dX12_two_1 (by rw [q29]; decide) (by rw [q29]; decide) (by rw [q29]; decide) (by decide) ?_
    refine z_iload_n dX12_two_187 rfl ?_
    refine z_if_ne (tgt := 195) dX12_two_188 (by decide) (fun q8 => ?_) (fun q8 => ?_)
    · have hv := hv.1 q8
      refine z_iconst (v := 1) dX12_two_195 (by decide) ?_
      refine z_goto (tgt := 200) dX12_two_196 (by decide) ?_
      exact z_ireturn dX12_two_200 rfl rfl (Nat.le_refl _) (Nat.le_refl _) hv
    · have hv := hv.2 q8
      refine z_iload_n dX12_two_191 rfl ?_
      refine z_if_eq (tgt := 199) dX12_two_192 (by decide) (fun q9 => ?_) (fun q9 => ?_)
      · have hv := hv.1 q9
        refine z_iconst (v := 0) dX12_two_199 (by decide) ?_
        exact z_ireturn dX12_two_200 rfl rfl (Nat.le_refl _) (Nat.le_refl _) hv
      · have hv := hv.2 q9
        refine z_iconst (v := 1) dX12_two_195 (by decide) ?_
        refine z_goto (tgt := 200) dX12_two_196 (by decide) ?_
        exact z_ireturn dX12_two_200 rfl rfl (Nat.le_refl _) (Nat.le_refl _) hv
  by_cases q30 : p1 = 58
  · have hv := hv.2.2.2.2.2.2.2.2 (by rw [q30]; decide) (by rw [q30]; decide) (by rw [q30]; decide) (by rw [q30]; decide) (by rw [q30]; decide) (by rw [q30]; decide) (by rw [q30]; decide) (by rw [q30]; decide)
    refine z_tableIn (off := 186) (tgt := 187) dX12_two_1 (by rw [q30]; decide) (by rw [q30]; decide) (by rw [q30]; decide) (by decide) ?_
    refine z_iload_n dX12_two_187 rfl ?_
    refine z_if_ne (tgt := 195) dX12_two_188 (by decide) (fun q8 => ?_) (fun q8 => ?_)
    · have hv := hv.1 q8
      refine z_iconst (v := 1) dX12_two_195 (by decide) ?_
      refine z_goto (tgt := 200) dX12_two_196 (by decide) ?_
      exact z_ireturn dX12_two_200 rfl rfl (Nat.le_refl _) (Nat.le_refl _) hv
    · have hv := hv.2 q8
      refine z_iload_n dX12_two_191 rfl ?_
      refine z_if_eq (tgt := 199) dX12_two_192 (by decide) (fun q9 => ?_) (fun q9 => ?_)
      · have hv := hv.1 q9
        refine z_iconst (v := 0) dX12_two_199 (by decide) ?_
        exact z_ireturn dX12_two_200 rfl rfl (Nat.le_refl _) (Nat.le_refl _) hv
      · have hv := hv.2 q9
        refine z_iconst (v := 1) dX12_two_195 (by decide) ?_
        refine z_goto (tgt := 200) dX12_two_196 (by decide) ?_
        exact z_ireturn dX12_two_200 rfl rfl (Nat.le_refl _) (Nat.le_refl _) hv
  by_cases q31 : p1 = 59
  · have hv := hv.2.2.2.2.2.2.2.2 (by rw [q31]; decide) (by rw [q31]; decide) (by rw [q31]; decide) (by rw [q31]; decide) (by rw [q31]; decide) (by rw [q31]; decide) (by rw [q31]; decide) (by rw [q31]; decide)
    refine z_tableIn (off := 186) (tgt := 187) dX12_two_1 (by rw [q31]; decide) (by rw [q31]; decide) (by rw [q31]; decide) (by decide) ?_
    refine z_iload_n dX12_two_187 rfl ?_
    refine z_if_ne (tgt := 195) dX12_two_188 (by decide) (fun q8 => ?_) (fun q8 => ?_)
    · have hv := hv.1 q8
      refine z_iconst (v := 1) dX12_two_195 (by decide) ?_
      refine z_goto (tgt := 200) dX12_two_196 (by decide) ?_
      exact z_ireturn dX12_two_200 rfl rfl (Nat.le_refl _) (Nat.le_refl _) hv
    · have hv := hv.2 q8
      refine z_iload_n dX12_two_191 rfl ?_
      refine z_if_eq (tgt := 199) dX12_two_192 (by decide) (fun q9 => ?_) (fun q9 => ?_)
      · have hv := hv.1 q9
        refine z_iconst (v := 0) dX12_two_199 (by decide) ?_
        exact z_ireturn dX12_two_200 rfl rfl (Nat.le_refl _) (Nat.le_refl _) hv
      · have hv := hv.2 q9
        refine z_iconst (v := 1) dX12_two_195 (by decide) ?_
        refine z_goto (tgt := 200) dX12_two_196 (by decide) ?_
        exact z_ireturn dX12_two_200 rfl rfl (Nat.le_refl _) (Nat.le_refl _) hv
  by_cases q32 : p1 = 60
  · have hv := hv.2.2.2.2.2.1 q32
    refine z_tableIn (off := 139) (tgt := 140) dX12_two_1 (by rw [q32]; decide) (by rw [q32]; decide) (by rw [q32]; decide) (by decide) ?_
    refine z_iload_n dX12_two_140 rfl ?_
    refine z_iload_n dX12_two_141 rfl ?_
    refine z_icmp_ge (tgt := 149) dX12_two_142 (by decide) (fun q5 => ?_) (fun q5 => ?_)
    · have hv := hv.1 q5
      refine z_iconst (v := 0) dX12_two_149 (by decide) ?_
      exact z_ireturn dX12_two_150 rfl rfl (Nat.le_refl _) (Nat.le_refl _) hv
    · have hv := hv.2 q5
      refine z_iconst (v := 1) dX12_two_145 (by decide) ?_
      refine z_goto (tgt := 150) dX12_two_146 (by decide) ?_
      exact z_ireturn dX12_two_150 rfl rfl (Nat.le_refl _) (Nat.le_refl _) hv
  by_cases q33 : p1 = 61
  · have hv := hv.2.2.2.2.2.2.1 q33
    refine z_tableIn (off := 161) (tgt := 162) dX12_two_1 (by rw [q33]; decide) (by rw [q33]; decide) (by rw [q33]; decide) (by decide) ?_
    refine z_iload_n dX12_two_162 rfl ?_
    refine z_iload_n dX12_two_163 rfl ?_
    refine z_icmp_ne (tgt := 171) dX12_two_164 (by decide) (fun q6 => ?_) (fun q6 => ?_)
    · have hv := hv.1 q6
      refine z_iconst (v := 0) dX12_two_171 (by decide) ?_
      exact z_ireturn dX12_two_172 rfl rfl (Nat.le_refl _) (Nat.le_refl _) hv
    · have hv := hv.2 q6
      refine z_iconst (v := 1) dX12_two_167 (by decide) ?_
      refine z_goto (tgt := 172) dX12_two_168 (by decide) ?_
      exact z_ireturn dX12_two_172 rfl rfl (Nat.le_refl _) (Nat.le_refl _) hv
  by_cases q34 : p1 = 62
  · have hv := hv.2.2.2.2.2.2.2.1 q34
    refine z_tableIn (off := 150) (tgt := 151) dX12_two_1 (by rw [q34]; decide) (by rw [q34]; decide) (by rw [q34]; decide) (by decide) ?_
    refine z_iload_n dX12_two_151 rfl ?_
    refine z_iload_n dX12_two_152 rfl ?_
    refine z_icmp_le (tgt := 160) dX12_two_153 (by decide) (fun q7 => ?_) (fun q7 => ?_)
    · have hv := hv.1 q7
      refine z_iconst (v := 0) dX12_two_160 (by decide) ?_
      exact z_ireturn dX12_two_161 rfl rfl (Nat.le_refl _) (Nat.le_refl _) hv
    · have hv := hv.2 q7
      refine z_iconst (v := 1) dX12_two_156 (by decide) ?_
      refine z_goto (tgt := 161) dX12_two_157 (by decide) ?_
      exact z_ireturn dX12_two_161 rfl rfl (Nat.le_refl _) (Nat.le_refl _) hv
  have hv := hv.2.2.2.2.2.2.2.2 q10 q14 q15 q17 q19 q32 q33 q34
  have tq10 := lv_neT q10 (show (38 : Int32).toInt = 38 by decide)
  have tq11 := lv_neT q11 (show (39 : Int32).toInt = 39 by decide)
  have tq12 := lv_neT q12 (show (40 : Int32).toInt = 40 by decide)
  have tq13 := lv_neT q13 (show (41 : Int32).toInt = 41 by decide)
  have tq14 := lv_neT q14 (show (42 : Int32).toInt = 42 by decide)
  have tq15 := lv_neT q15 (show (43 : Int32).toInt = 43 by decide)
  have tq16 := lv_neT q16 (show (44 : Int32).toInt = 44 by decide)
  have tq17 := lv_neT q17 (show (45 : Int32).toInt = 45 by decide)
  have tq18 := lv_neT q18 (show (46 : Int32).toInt = 46 by decide)
  have tq19 := lv_neT q19 (show (47 : Int32).toInt = 47 by decide)
  have tq20 := lv_neT q20 (show (48 : Int32).toInt = 48 by decide)
  have tq21 := lv_neT q21 (show (49 : Int32).toInt = 49 by decide)
  have tq22 := lv_neT q22 (show (50 : Int32).toInt = 50 by decide)
  have tq23 := lv_neT q23 (show (51 : Int32).toInt = 51 by decide)
  have tq24 := lv_neT q24 (show (52 : Int32).toInt = 52 by decide)
  have tq25 := lv_neT q25 (show (53 : Int32).toInt = 53 by decide)
  have tq26 := lv_neT q26 (show (54 : Int32).toInt = 54 by decide)
  have tq27 := lv_neT q27 (show (55 : Int32).toInt = 55 by decide)
  have tq28 := lv_neT q28 (show (56 : Int32).toInt = 56 by decide)
  have tq29 := lv_neT q29 (show (57 : Int32).toInt = 57 by decide)
  have tq30 := lv_neT q30 (show (58 : Int32).toInt = 58 by decide)
  have tq31 := lv_neT q31 (show (59 : Int32).toInt = 59 by decide)
  have tq32 := lv_neT q32 (show (60 : Int32).toInt = 60 by decide)
  have tq33 := lv_neT q33 (show (61 : Int32).toInt = 61 by decide)
  have tq34 := lv_neT q34 (show (62 : Int32).toInt = 62 by decide)
  refine z_tableOut (tgt := 187) dX12_two_1 (by omega) (by decide) ?_
  refine z_iload_n dX12_two_187 rfl ?_
  refine z_if_ne (tgt := 195) dX12_two_188 (by decide) (fun q8 => ?_) (fun q8 => ?_)
  · have hv := hv.1 q8
    refine z_iconst (v := 1) dX12_two_195 (by decide) ?_
    refine z_goto (tgt := 200) dX12_two_196 (by decide) ?_
    exact z_ireturn dX12_two_200 rfl rfl (Nat.le_refl _) (Nat.le_refl _) hv
  · have hv := hv.2 q8
    refine z_iload_n dX12_two_191 rfl ?_
    refine z_if_eq (tgt := 199) dX12_two_192 (by decide) (fun q9 => ?_) (fun q9 => ?_)
    · have hv := hv.1 q9
      refine z_iconst (v := 0) dX12_two_199 (by decide) ?_
      exact z_ireturn dX12_two_200 rfl rfl (Nat.le_refl _) (Nat.le_refl _) hv
    · have hv := hv.2 q9
      refine z_iconst (v := 1) dX12_two_195 (by decide) ?_
      refine z_goto (tgt := 200) dX12_two_196 (by decide) ?_
      exact z_ireturn dX12_two_200 rfl rfl (Nat.le_refl _) (Nat.le_refl _) hv
theorem sp_X12_two {d : Nat} {I : zI} {L : zL} {P : zP} {c a b : Int32} (hP : zPk P) {K : Int32 → zI → zL → zP → Prop} (k : K (sTwo c a b) I L P) : zMi zm_X12_two d [.int c, .int a, .int b] I L P K := by
  unfold sTwo at k
  refine g_X12_two hP ⟨fun q => ?_, fun q => ?_, fun q => ?_, fun q => ?_, fun q => ?_, fun q => ?_, fun q => ?_, fun q => ?_, fun q1 q2 q3 q4 q5 q6 q7 q8 => ?_⟩
  · subst q
    rw [if_pos rfl] at k
    refine ⟨fun h => qi ?_, fun h => ⟨fun h2 => qi ?_, fun h2 => qi ?_⟩⟩
    · rwa [bP_f (fun z => z.1 h)] at k
    · rwa [bP_f (fun z => z.2 h2)] at k
    · rwa [bP_t ⟨h, h2⟩] at k
  · subst q; exact qi k
  · subst q; exact qi k
  · subst q; exact qi k
  · subst q
    refine ⟨fun h => ⟨h, qi ?_⟩, fun h => qi ?_⟩
    · have k2 : K (if b = 0 then 0 else a / b) I L P := k
      rwa [if_neg h] at k2
    · have k2 : K (if b = 0 then 0 else a / b) I L P := k
      rwa [if_pos h] at k2
  · subst q
    have k2 : K (bP (¬ b ≤ a)) I L P := k
    refine ⟨fun h => qi ?_, fun h => qi ?_⟩
    · rwa [bP_f (fun z => z h)] at k2
    · rwa [bP_t h] at k2
  · subst q
    have k2 : K (bP (a = b)) I L P := k
    refine ⟨fun h => qi ?_, fun h => qi ?_⟩
    · rwa [bP_f h] at k2
    · rwa [bP_t h] at k2
  · subst q
    have k2 : K (bP (¬ a ≤ b)) I L P := k
    refine ⟨fun h => qi ?_, fun h => qi ?_⟩
    · rwa [bP_f (fun z => z h)] at k2
    · rwa [bP_t h] at k2
  · rw [if_neg q1, if_neg q2, if_neg q3, if_neg q4, if_neg q5, if_neg q6, if_neg q7, if_neg q8] at k
    refine ⟨fun h => qi ?_, fun h => ⟨fun h2 => qi ?_, fun h2 => qi ?_⟩⟩
    · rwa [bP_t (Or.inl h)] at k
    · rwa [bP_f (fun z => z.elim (fun y => y h) (fun y => y h2))] at k
    · rwa [bP_t (Or.inr h2)] at k
