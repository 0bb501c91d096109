theorem fb_holes : ∀ (m n : Nat) (f : Nat → Nat), (∀ i, i < n → f i < m) → (∀ i j, i < j → j < n → f i ≠ f j) → n ≤ m := by
  intro m
  induction m with
  | zero =>
    intro n f h1 _
    rcases Nat.eq_zero_or_pos n with h | h
    · omega
    · exact absurd (h1 0 h) (Nat.not_lt_zero _)
  | succ m ih =>
    intro n f h1 h2
    by_cases hx : ∃ i, i < n ∧ f i = m
    · obtain ⟨a, ha, hfa⟩ := hx
      have hg := ih (n - 1) (fun i => if i < a then f i else f (i + 1)) (by
        intro i hi
        by_cases q : i < a
        · simp only [if_pos q]
          have b1 := h1 i (by omega)
          have b2 := h2 i a q ha
          omega
        · simp only [if_neg q]
          have b1 := h1 (i + 1) (by omega)
          have b2 := h2 a (i + 1) (by omega) (by omega)
          omega) (by
        intro i j hij hj
        by_cases q : i < a
        · by_cases r : j < a
          · simp only [if_pos q, if_pos r]
            exact h2 i j hij (by omega)
          · simp only [if_pos q, if_neg r]
            exact h2 i (j + 1) (by omega) (by omega)
        · have r : ¬ j < a := by omega
          simp only [if_neg q, if_neg r]
          exact h2 (i + 1) (j + 1) (by omega) (by omega))
      omega
    · have hg := ih n f (fun i hi => by
        have b1 := h1 i hi
        have b2 : f i ≠ m := fun e => hx ⟨i, hi, e⟩
        omega) h2
      omega
/-! ===== the model: what hangs together ===== -/
/-- b is reached from a by steps among possible worlds -/
def sCo (np N : Nat) (po : Nat → Prop) (lk : Nat → Nat → Nat → Prop) (a b : Nat) : Prop := ∀ S : Nat → Prop, S a → (∀ c u p, S c → u < N → po u → p < np → lk p c u → S u) → S b
theorem sCo_rf {np N : Nat} {po : Nat → Prop} {lk : Nat → Nat → Nat → Prop} (a : Nat) : sCo np N po lk a a := fun _ h _ => h
theorem sCo_tr {np N : Nat} {po : Nat → Prop} {lk : Nat → Nat → Nat → Prop} {a b c : Nat} (h1 : sCo np N po lk a b) (h2 : sCo np N po lk b c) : sCo np N po lk a c := fun S h0 hs => h2 S (h1 S h0 hs) hs
theorem sCo_st {np N : Nat} {po : Nat → Prop} {lk : Nat → Nat → Nat → Prop} {a b u p : Nat} (h1 : sCo np N po lk a b) (hu : u < N) (hp : po u) (hq : p < np) (hl : lk p b u) : sCo np N po lk a u := fun S h0 hs => hs b u p (h1 S h0 hs) hu hp hq hl
theorem sCo_sy {np N : Nat} {po : Nat → Prop} {lk : Nat → Nat → Nat → Prop} (sy : ∀ p a b, lk p a b → lk p b a) {a b : Nat} (ha : a < N) (hp : po a) (h1 : sCo np N po lk a b) : sCo np N po lk b a := by
  have := h1 (fun z => (z < N ∧ po z) ∧ sCo np N po lk z a) ⟨⟨ha, hp⟩, sCo_rf a⟩ (fun c u p hc hu hpu hq hl => ⟨⟨hu, hpu⟩, sCo_tr (sCo_st (sCo_rf u) hc.1.1 hc.1.2 hq (sy p c u hl)) hc.2⟩)
  exact this.2
theorem sCo_c {np N : Nat} {po po' : Nat → Prop} {lk lk' : Nat → Nat → Nat → Prop} (h1 : ∀ u, u < N → (po u ↔ po' u)) (h2 : ∀ p c u, p < np → c < N → u < N → po c → po u → (lk p c u ↔ lk' p c u)) {a b : Nat} (ha : a < N) (hp : po a) (h : sCo np N po lk a b) : sCo np N po' lk' a b := by
  intro S h0 hs
  have := h (fun z => (z < N ∧ po z) ∧ S z) ⟨⟨ha, hp⟩, h0⟩ (fun c u p hc hu hpu hq hl => ⟨⟨hu, hpu⟩, hs c u p hc.2 hu ((h1 u hu).mp hpu) hq ((h2 p c u hq hc.1.1 hu hc.1.2 hpu).mp hl)⟩)
  exact this.2
theorem vLike_sy (I : zI) (p a b : Nat) (h : vLike I p a b) : vLike I p b a := ⟨by rw [Nat.xor_comm]; exact h.1, fun k hk hb => (h.2 k hk hb).symm⟩
theorem vLike_rf (I : zI) (p a : Nat) : vLike I p a a := ⟨by rw [Nat.xor_self, Nat.zero_and], fun _ _ _ => rfl⟩
theorem vLike_tr (I : zI) (p a b c : Nat) (h1 : vLike I p a b) (h2 : vLike I p b c) : vLike I p a c := by
  refine ⟨?_, fun k hk hb => (h1.2 k hk hb).trans (h2.2 k hk hb)⟩
  apply Nat.eq_of_testBit_eq
  intro i
  have e1 : ((a ^^^ b) &&& vSee I p).testBit i = false := by rw [h1.1]; simp
  have e2 : ((b ^^^ c) &&& vSee I p).testBit i = false := by rw [h2.1]; simp
  simp only [Nat.testBit_and, Nat.testBit_xor] at e1 e2
  simp only [Nat.testBit_and, Nat.testBit_xor, Nat.zero_testBit]
  revert e1 e2
  generalize a.testBit i = x1
  generalize b.testBit i = x2
  generalize c.testBit i = x3
  generalize (vSee I p).testBit i = x4
  cases x1 <;> cases x2 <;> cases x3 <;> cases x4 <;> decide
def sAd (np : Nat) (lk : Nat → Nat → Nat → Prop) (a b : Nat) : Prop := ∃ p, p < np ∧ lk p a b
/-- labels: each labelled world is possible and hangs together with its label; labelled ones have labelled neighbours, alike -/
def sLb (np N : Nat) (po : Nat → Prop) (lk : Nat → Nat → Nat → Prop) (q : Nat → Int32) : Prop :=
  (∀ v, v < N → q v = -1 ∨ ∃ r, r < N ∧ q v = nI r ∧ po v ∧ po r ∧ sCo np N po lk r v ∧ q r = nI r) ∧ ∀ v u, v < N → u < N → 0 ≤ q v → po u → sAd np lk v u → q u = q v
/-- while one part is laid: n reached, i of them done -/
def sLP (np N : Nat) (po : Nat → Prop) (lk : Nat → Nat → Nat → Prop) (q rc : Nat → Int32) (fr n i : Nat) : Prop :=
  (∀ v, v < N → q v = -1 ∨ ∃ r, r < N ∧ q v = nI r ∧ po v ∧ po r ∧ sCo np N po lk r v ∧ q r = nI r) ∧
  (∀ j, j < n → ∃ c, c < N ∧ rc j = nI c ∧ q c = nI fr) ∧
  (∀ j j', j < j' → j' < n → rc j ≠ rc j') ∧
  (∀ v, v < N → q v = nI fr → ∃ j, j < n ∧ rc j = nI v) ∧
  (∀ j c u, j < i → rc j = nI c → c < N → u < N → po u → sAd np lk c u → 0 ≤ q u) ∧
  (∀ v u r, v < N → u < N → r < N → r ≠ fr → q v = nI r → po u → sAd np lk v u → q u = q v)
theorem m1neg : ¬ (0 : Int32) ≤ -1 := by decide
theorem sLP_n {np N : Nat} {po : Nat → Prop} {lk : Nat → Nat → Nat → Prop} {q rc : Nat → Int32} {fr n i : Nat} (hN : N ≤ 256) (hf : fr < N) (h : sLP np N po lk q rc fr n i) {v : Nat} (hv : v < N) (hq : ¬ 0 ≤ q v) : n + 1 ≤ N := by
  obtain ⟨h1, h2, h3, h4, h5, h6⟩ := h
  refine fb_holes N (n + 1) (fun j => if j < n then (rc j).toNatClampNeg else v) ?_ ?_
  · intro j hj
    by_cases hjn : j < n
    · simp only [if_pos hjn]
      obtain ⟨c, c1, c2, -⟩ := h2 j hjn
      rw [c2, nI_cl (by omega)]; exact c1
    · simp only [if_neg hjn]; exact hv
  · intro j j' hjj hj'
    have hjn : j < n := by omega
    obtain ⟨c, c1, c2, c3⟩ := h2 j hjn
    simp only [if_pos hjn]
    rw [c2, nI_cl (by omega)]
    by_cases hj2 : j' < n
    · simp only [if_pos hj2]
      obtain ⟨c', d1, d2, -⟩ := h2 j' hj2
      rw [d2, nI_cl (by omega)]
      intro e
      exact h3 j j' hjj hj2 (by rw [c2, d2, e])
    · simp only [if_neg hj2]
      intro e
      subst e
      exact hq (by rw [c3]; exact nI_pos' (by omega))
/-- one more is reached -/
theorem sLP_add {np N : Nat} {po : Nat → Prop} {lk : Nat → Nat → Nat → Prop} {q rc : Nat → Int32} {fr n i c v : Nat} (hN : N ≤ 256) (hf : fr < N) (h : sLP np N po lk q rc fr n i) (hin : i ≤ n) (hc : c < N) (hqc : q c = nI fr) (hv : v < N) (hq : ¬ 0 ≤ q v) (hp : po v) (ha : sAd np lk c v) : sLP np N po lk (upd q v (nI fr)) (upd rc n (nI v)) fr (n + 1) i := by
  obtain ⟨h1, h2, h3, h4, h5, h6⟩ := h
  have hq1 : ∀ z, z < N → 0 ≤ q z → z ≠ v := fun z _ h e => hq (e ▸ h)
  have hfr0 : (0 : Int32) ≤ nI fr := nI_pos' (by omega)
  refine ⟨fun z hz => ?_, fun j hj => ?_, fun j j' hjj hj' => ?_, fun z hz hzq => ?_, fun j c' u hj hrc hc' hu hpu hau => ?_, fun z u r hz hu hr hrf hzq hpu hau => ?_⟩
  · by_cases hzv : z = v
    · subst hzv
      rw [pk_us]
      rcases h1 c hc with g | ⟨r, g1, g2, g3, g4, g5, g6⟩
      · rw [hqc] at g; rw [g] at hfr0; exact absurd hfr0 m1neg
      · have : r = fr := (nI_eq (by omega) (by omega)).mp (g2.symm.trans hqc)
        subst this
        obtain ⟨p, hp1, hp2⟩ := ha
        exact Or.inr ⟨r, g1, rfl, hp, g4, sCo_st g5 hv hp hp1 hp2, by rw [pk_un (hq1 r g1 (by rw [g6]; exact hfr0))]; exact g6⟩
    · rw [pk_un hzv]
      rcases h1 z hz with g | ⟨r, g1, g2, g3, g4, g5, g6⟩
      · exact Or.inl g
      · exact Or.inr ⟨r, g1, g2, g3, g4, g5, by rw [pk_un (hq1 r g1 (by rw [g6]; exact nI_pos' (by omega)))]; exact g6⟩
  · by_cases hjn : j = n
    · subst hjn
      exact ⟨v, hv, pk_us, pk_us⟩
    · obtain ⟨c', c1, c2, c3⟩ := h2 j (by omega)
      exact ⟨c', c1, by rw [pk_un hjn]; exact c2, by rw [pk_un (hq1 c' c1 (by rw [c3]; exact hfr0))]; exact c3⟩
  · have hjn : j ≠ n := by omega
    rw [pk_un hjn]
    by_cases hj2 : j' = n
    · subst hj2
      rw [pk_us]
      obtain ⟨c', c1, c2, c3⟩ := h2 j (by omega)
      rw [c2]
      intro e
      exact hq1 c' c1 (by rw [c3]; exact hfr0) ((nI_eq (by omega) (by omega)).mp e)
    · rw [pk_un hj2]; exact h3 j j' hjj (by omega)
  · by_cases hzv : z = v
    · subst hzv; exact ⟨n, by omega, pk_us⟩
    · rw [pk_un hzv] at hzq
      obtain ⟨j, j1, j2⟩ := h4 z hz hzq
      exact ⟨j, by omega, by rw [pk_un (by omega)]; exact j2⟩
  · rw [pk_un (by omega)] at hrc
    by_cases huv : u = v
    · subst huv; rw [pk_us]; exact hfr0
    · rw [pk_un huv]; exact h5 j c' u hj hrc hc' hu hpu hau
  · have hzv : z ≠ v := by
      intro e; subst e
      rw [pk_us] at hzq
      exact hrf ((nI_eq (by omega) (by omega)).mp hzq).symm
    rw [pk_un hzv] at hzq ⊢
    have := h6 z u r hz hu hr hrf hzq hpu hau
    have huv : u ≠ v := hq1 u hu (by rw [this, hzq]; exact nI_pos' (by omega))
    rw [pk_un huv]; exact this
/-- the part is laid -/
theorem sLP_end {np N : Nat} {po : Nat → Prop} {lk : Nat → Nat → Nat → Prop} {q rc : Nat → Int32} {fr n : Nat} (sy : ∀ p a b, lk p a b → lk p b a) (hN : N ≤ 256) (hf : fr < N) (h : sLP np N po lk q rc fr n n) : sLb np N po lk q := by
  obtain ⟨h1, h2, h3, h4, h5, h6⟩ := h
  refine ⟨h1, fun v u hv hu hq hpu ha => ?_⟩
  rcases h1 v hv with g | ⟨r, r1, r2, r3, r4, r5, -⟩
  · rw [g] at hq; exact absurd hq m1neg
  · by_cases hr : r = fr
    · subst hr
      obtain ⟨j, j1, j2⟩ := h4 v hv r2
      have hqu := h5 j v u j1 j2 hv hu hpu ha
      rcases h1 u hu with g | ⟨r', s1, s2, s3, s4, s5, -⟩
      · rw [g] at hqu; exact absurd hqu m1neg
      · by_cases hr' : r' = r
        · rw [s2, r2, hr']
        · obtain ⟨p, p1, p2⟩ := ha
          exact (h6 u v r' hu hv s1 hr' s2 r3 ⟨p, p1, sy p v u p2⟩).symm
    · exact h6 v u r hv hu r1 hr r2 hpu ha
/-- a part is begun -/
theorem sLP_begin {np N : Nat} {po : Nat → Prop} {lk : Nat → Nat → Nat → Prop} {q rc : Nat → Int32} {fr : Nat} (hN : N ≤ 256) (hf : fr < N) (h : sLb np N po lk q) (hq : ¬ 0 ≤ q fr) (hp : po fr) : sLP np N po lk (upd q fr (nI fr)) (upd rc 0 (nI fr)) fr 1 0 := by
  obtain ⟨h1, h2⟩ := h
  have hq1 : ∀ z, z < N → 0 ≤ q z → z ≠ fr := fun z _ h e => hq (e ▸ h)
  have nofr : ∀ z, z < N → q z ≠ nI fr := by
    intro z hz e
    rcases h1 z hz with g | ⟨r, g1, g2, g3, g4, g5, g6⟩
    · rw [e] at g
      have : (0 : Int32) ≤ nI fr := nI_pos' (by omega)
      rw [g] at this; exact m1neg this
    · have : r = fr := (nI_eq (by omega) (by omega)).mp (g2.symm.trans e)
      subst this
      exact hq (by rw [g6]; exact nI_pos' (by omega))
  refine ⟨fun z hz => ?_, fun j hj => ?_, fun j j' hjj hj' => absurd hj' (by omega), fun z hz hzq => ?_, fun j c' u hj => absurd hj (Nat.not_lt_zero j), fun z u r hz hu hr hrf hzq hpu hau => ?_⟩
  · by_cases hzv : z = fr
    · subst hzv
      rw [pk_us]
      exact Or.inr ⟨z, hf, rfl, hp, hp, sCo_rf z, pk_us⟩
    · rw [pk_un hzv]
      rcases h1 z hz with g | ⟨r, g1, g2, g3, g4, g5, g6⟩
      · exact Or.inl g
      · exact Or.inr ⟨r, g1, g2, g3, g4, g5, by rw [pk_un (hq1 r g1 (by rw [g6]; exact nI_pos' (by omega)))]; exact g6⟩
  · have : j = 0 := by omega
    subst this
    exact ⟨fr, hf, pk_us, pk_us⟩
  · by_cases hzv : z = fr
    · subst hzv; exact ⟨0, by omega, pk_us⟩
    · rw [pk_un hzv] at hzq; exact absurd hzq (nofr z hz)
  · have hzv : z ≠ fr := by
      intro e; subst e
      rw [pk_us] at hzq
      exact hrf ((nI_eq (by omega) (by omega)).mp hzq).symm
    rw [pk_un hzv] at hzq ⊢
    have := h2 z u hz hu (by rw [hzq]; exact nI_pos' (by omega)) hpu hau
    have huv : u ≠ fr := hq1 u hu (by rw [this, hzq]; exact nI_pos' (by omega))
    rw [pk_un huv]; exact this
/-- labels tell what hangs together -/
theorem sLb_iff {np N : Nat} {po : Nat → Prop} {lk : Nat → Nat → Nat → Prop} {q : Nat → Int32} (sy : ∀ p a b, lk p a b → lk p b a) (hN : N ≤ 256) (h : sLb np N po lk q) {a b : Nat} (ha : a < N) (hb : b < N) (pa : po a) (pb : po b) (la : 0 ≤ q a) (lb : 0 ≤ q b) : q a = q b ↔ sCo np N po lk a b := by
  obtain ⟨h1, h2⟩ := h
  constructor
  · intro e
    rcases h1 a ha with g | ⟨r, g1, g2, g3, g4, g5, g6⟩
    · rw [g] at la; exact absurd la m1neg
    · rcases h1 b hb with k | ⟨r', k1, k2, k3, k4, k5, k6⟩
      · rw [k] at lb; exact absurd lb m1neg
      · have : r' = r := (nI_eq (by omega) (by omega)).mp (k2.symm.trans (e.symm.trans g2))
        subst this
        exact sCo_tr (sCo_sy sy g1 g4 g5) k5
  · intro e
    have := e (fun z => z < N ∧ 0 ≤ q z ∧ q a = q z) ⟨ha, la, rfl⟩ (fun c u p hc hu hpu hq hl => by
      have := h2 c u hc.1 hu hc.2.1 hpu ⟨p, hq, hl⟩
      exact ⟨hu, by rw [this]; exact hc.2.1, by rw [this]; exact hc.2.2⟩)
    exact this.2.2
abbrev gw_X12_layPart (d : Nat) (Q : zQt) (pc : Nat) (lv : zV) (st : List Value) (I : zI) (L : zL) (P : zP) : Prop := zW zm_X12_layPart (zRm d 0 0) 0 0 Q pc lv st I L P 205 0 0
abbrev v_X12_layPart_97 (d : Nat) (Q : zQt) (p1 : Int32) (x2 : Int32) (x3 : Int32) (x4 : Int32) (x5 : Int32) (I : zI) (L : zL) (P : zP) : Prop :=
  ((¬ x5 = 0 →
    vp_in x4 256 ∧
    ∀ I28 : zI, I28 = zuI I 186 x4.toNatClampNeg p1 →
    vp_in x2 256 ∧
    ∀ I31 : zI, I31 = zuI I28 184 x2.toNatClampNeg x4 →
    gw_X12_layPart (d + 1) Q 26 [some (.ref 160), some (.int p1), some (.int (x2 + 1)), some (.int x3), some (.int (x4 + 1)), none, none] [] I31 L P
  ) ∧ (x5 = 0 →
    gw_X12_layPart (d + 1) Q 26 [some (.ref 160), some (.int p1), some (.int x2), some (.int x3), some (.int (x4 + 1)), none, none] [] I L P
  ))
set_option maxRecDepth 20000 in
theorem g_X12_layPart_97 {d : Nat} {Q : zQt} {p1 : Int32} {x2 : Int32} {x3 : Int32} {x4 : Int32} {x5 : Int32} {I : zI} {L : zL} {P : zP} (hP : zPk P) (hd : 1 ≤ d) (hv : v_X12_layPart_97 d Q p1 x2 x3 x4 x5 I L P) : gw_X12_layPart (d + 1) Q 97 [some (.ref 160), some (.int p1), some (.int x2), some (.int x3), some (.int x4), some (.int x5), none] [] I L P := by
  unfold v_X12_layPart_97 at hv
  refine z_iload dX12_layPart_97 rfl ?_
  refine z_if_ne (tgt := 105) dX12_layPart_99 (by decide) (fun q25 => ?_) (fun q25 => ?_)
  · have hv := hv.1 q25
    refine z_aload_n dX12_layPart_105 rfl ?_
    refine z_getP dX12_layPart_106 zf_X12_92 zn_160 zo_160 (fun _ _ _ _ _ => rfl) (hP 160 44 186 zp_160_44) ?_
    refine z_iload dX12_layPart_109 rfl ?_
    refine z_iload_n dX12_layPart_111 rfl ?_
    obtain ⟨h26, hv⟩ := hv
    refine z_iastore dX12_layPart_112 zn_186 zh_186 h26 (z_nmI (fun I28 e27 => ?_))
    have hv := hv I28 e27
    refine z_aload_n dX12_layPart_113 rfl ?_
    refine z_getP dX12_layPart_114 zf_X12_86 zn_160 zo_160 (fun _ _ _ _ _ => rfl) (hP 160 42 184 zp_160_42) ?_
    refine z_iload_n dX12_layPart_117 rfl ?_
    refine z_iload dX12_layPart_118 rfl ?_
    obtain ⟨h29, hv⟩ := hv
    refine z_iastore dX12_layPart_120 zn_184 zh_184 h29 (z_nmI (fun I31 e30 => ?_))
    have hv := hv I31 e30
    refine z_iinc (v2 := x2 + 1) (lv2 := [some (.ref 160), some (.int p1), some (.int (x2 + 1)), some (.int x3), some (.int x4), some (.int x5), none]) dX12_layPart_121 rfl (by rfl) (by decide) rfl rfl ?_
    refine z_iinc (v2 := x4 + 1) (lv2 := [some (.ref 160), some (.int p1), some (.int (x2 + 1)), some (.int x3), some (.int (x4 + 1)), some (.int x5), none]) dX12_layPart_124 rfl (by rfl) (by decide) rfl rfl ?_
    refine z_goto (tgt := 26) dX12_layPart_127 (by decide) ?_
    exact z_sub (by exact ⟨rfl, ⟨rfl, ⟨rfl, ⟨rfl, ⟨rfl, trivial⟩⟩⟩⟩⟩) hv
  · have hv := hv.2 q25
    refine z_goto (tgt := 124) dX12_layPart_102 (by decide) ?_
    refine z_iinc (v2 := x4 + 1) (lv2 := [some (.ref 160), some (.int p1), some (.int x2), some (.int x3), some (.int (x4 + 1)), some (.int x5), none]) dX12_layPart_124 rfl (by rfl) (by decide) rfl rfl ?_
    refine z_goto (tgt := 26) dX12_layPart_127 (by decide) ?_
    exact z_sub (by exact ⟨rfl, ⟨rfl, ⟨rfl, ⟨rfl, ⟨rfl, trivial⟩⟩⟩⟩⟩) hv
abbrev v_X12_layPart_41 (d : Nat) (Q : zQt) (p1 : Int32) (x2 : Int32) (x3 : Int32) (x4 : Int32) (x5 : Int32) (x6 : Int32) (I : zI) (L : zL) (P : zP) : Prop :=
  MB I ∧
  (((nI (vNp I)) ≤ x6 →
    gw_X12_layPart (d + 1) Q 97 [some (.ref 160), some (.int p1), some (.int x2), some (.int x3), some (.int x4), some (.int x5), none] [] I L P
  ) ∧ (¬ (nI (vNp I)) ≤ x6 →
    vp_in x4 256 ∧
    (((I 180 x4.toNatClampNeg) = 0 →
      gw_X12_layPart (d + 1) Q 97 [some (.ref 160), some (.int p1), some (.int x2), some (.int x3), some (.int x4), some (.int x5), none] [] I L P
    ) ∧ (¬ (I 180 x4.toNatClampNeg) = 0 →
      ((0 ≤ (I 186 x4.toNatClampNeg) →
        gw_X12_layPart (d + 1) Q 97 [some (.ref 160), some (.int p1), some (.int x2), some (.int x3), some (.int x4), some (.int x5), none] [] I L P
      ) ∧ (¬ 0 ≤ (I 186 x4.toNatClampNeg) →
        ((¬ x5 = 0 →
          gw_X12_layPart (d + 1) Q 97 [some (.ref 160), some (.int p1), some (.int x2), some (.int x3), some (.int x4), some (.int x5), none] [] I L P
        ) ∧ (x5 = 0 →
          vp_in x3 256 ∧
          zMi zm_X12_areLike d [.ref 160, .int x6, .int (I 184 x3.toNatClampNeg), .int x4] I L P (fun r24 I20 L21 P22 =>
            gw_X12_layPart (d + 1) Q 41 [some (.ref 160), some (.int p1), some (.int x2), some (.int x3), some (.int x4), some (.int r24), some (.int (x6 + 1))] [] I20 L21 P22
          )
        ))
      ))
    ))
  ))
set_option maxRecDepth 20000 in
theorem g_X12_layPart_41 {d : Nat} {Q : zQt} {p1 : Int32} {x2 : Int32} {x3 : Int32} {x4 : Int32} {x5 : Int32} {x6 : Int32} {I : zI} {L : zL} {P : zP} (hP : zPk P) (hd : 1 ≤ d) (hv : v_X12_layPart_41 d Q p1 x2 x3 x4 x5 x6 I L P) : gw_X12_layPart (d + 1) Q 41 [some (.ref 160), some (.int p1), some (.int x2), some (.int x3), some (.int x4), some (.int x5), some (.int x6)] [] I L P := by
  unfold v_X12_layPart_41 at hv
  refine z_iload dX12_layPart_41 rfl ?_
  refine z_aload_n dX12_layPart_43 rfl ?_
  obtain ⟨h11, hv⟩ := hv
  refine z_callV (As := []) (st := [.int x6]) dX12_layPart_44 zl_X12_339 zv_X12_manyOf (by decide) rfl zn_160 zo_160 rfl rfl (Nat.le_of_ble_eq_true rfl) ⟨Nat.le_refl _, Nat.le_refl _⟩ ⟨Nat.le_refl _, Nat.le_refl _⟩ (sp_X12_manyOf hP h11 (K := fun r I' L' P' => nI (vNp I) = r ∧ I = I' ∧ L = L' ∧ P = P') ⟨rfl, rfl, rfl, rfl⟩) (fun v1 I2 L2 P2 nx1 q13 => ?_)
  obtain ⟨rfl, r12, rfl, rfl, rfl, rfl, rfl⟩ := q13
  refine z_icmp_ge (tgt := 97) dX12_layPart_47 (by decide) (fun q14 => ?_) (fun q14 => ?_)
  · have hv := hv.1 q14
    exact z_sub (by exact ⟨rfl, ⟨rfl, ⟨rfl, ⟨rfl, ⟨rfl, ⟨rfl, trivial⟩⟩⟩⟩⟩⟩) hv
  · have hv := hv.2 q14
    refine z_aload_n dX12_layPart_50 rfl ?_
    refine z_getP dX12_layPart_51 zf_X12_74 zn_160 zo_160 (fun _ _ _ _ _ => rfl) (hP 160 35 180 zp_160_35) ?_
    refine z_iload dX12_layPart_54 rfl ?_
    obtain ⟨h15, hv⟩ := hv
    refine z_zaload dX12_layPart_56 zn_180 zh_180 h15 ?_
    refine z_if_eq (tgt := 97) dX12_layPart_57 (by decide) (fun q16 => ?_) (fun q16 => ?_)
    · have hv := hv.1 q16
      exact z_sub (by exact ⟨rfl, ⟨rfl, ⟨rfl, ⟨rfl, ⟨rfl, ⟨rfl, trivial⟩⟩⟩⟩⟩⟩) hv
    · have hv := hv.2 q16
      refine z_aload_n dX12_layPart_60 rfl ?_
      refine z_getP dX12_layPart_61 zf_X12_92 zn_160 zo_160 (fun _ _ _ _ _ => rfl) (hP 160 44 186 zp_160_44) ?_
      refine z_iload dX12_layPart_64 rfl ?_
      refine z_iaload dX12_layPart_66 zn_186 zh_186 h15 ?_
      refine z_if_ge (tgt := 97) dX12_layPart_67 (by decide) (fun q17 => ?_) (fun q17 => ?_)
      · have hv := hv.1 q17
        exact z_sub (by exact ⟨rfl, ⟨rfl, ⟨rfl, ⟨rfl, ⟨rfl, ⟨rfl, trivial⟩⟩⟩⟩⟩⟩) hv
      · have hv := hv.2 q17
        refine z_iload dX12_layPart_70 rfl ?_
        refine z_if_ne (tgt := 97) dX12_layPart_72 (by decide) (fun q18 => ?_) (fun q18 => ?_)
        · have hv := hv.1 q18
          exact z_sub (by exact ⟨rfl, ⟨rfl, ⟨rfl, ⟨rfl, ⟨rfl, ⟨rfl, trivial⟩⟩⟩⟩⟩⟩) hv
        · have hv := hv.2 q18
          refine z_aload_n dX12_layPart_75 rfl ?_
          refine z_iload dX12_layPart_76 rfl ?_
          refine z_aload_n dX12_layPart_78 rfl ?_
          refine z_getP dX12_layPart_79 zf_X12_86 zn_160 zo_160 (fun _ _ _ _ _ => rfl) (hP 160 42 184 zp_160_42) ?_
          refine z_iload_n dX12_layPart_82 rfl ?_
          obtain ⟨h19, hv⟩ := hv
          refine z_iaload dX12_layPart_83 zn_184 zh_184 h19 ?_
          refine z_iload dX12_layPart_84 rfl ?_
          refine z_callV (As := [.int x6, .int (I 184 x3.toNatClampNeg), .int x4]) (st := []) dX12_layPart_86 zl_X12_371 zv_X12_areLike (by decide) rfl zn_160 zo_160 rfl rfl (Nat.le_of_ble_eq_true rfl) ⟨Nat.le_refl _, Nat.le_refl _⟩ ⟨Nat.le_refl _, Nat.le_refl _⟩ hv (fun v1 I20 L21 P22 nx1 q23 => ?_)
          obtain ⟨rfl, r24, rfl, hv⟩ := q23
          refine z_istore (lv2 := [some (.ref 160), some (.int p1), some (.int x2), some (.int x3), some (.int x4), some (.int r24), some (.int x6)]) dX12_layPart_89 (by decide) rfl rfl ?_
          refine z_iinc (v2 := x6 + 1) (lv2 := [some (.ref 160), some (.int p1), some (.int x2), some (.int x3), some (.int x4), some (.int r24), some (.int (x6 + 1))]) dX12_layPart_91 rfl (by rfl) (by decide) rfl rfl ?_
          refine z_goto (tgt := 41) dX12_layPart_94 (by decide) ?_
          exact hv
abbrev v_X12_layPart_26 (d : Nat) (Q : zQt) (p1 : Int32) (x2 : Int32) (x3 : Int32) (x4 : Int32) (I : zI) (L : zL) (P : zP) : Prop :=
  MB I ∧
  (((nI (vN I)) ≤ x4 →
    gw_X12_layPart (d + 1) Q 18 [some (.ref 160), some (.int p1), some (.int x2), some (.int (x3 + 1)), none, none, none] [] I L P
  ) ∧ (¬ (nI (vN I)) ≤ x4 →
    gw_X12_layPart (d + 1) Q 41 [some (.ref 160), some (.int p1), some (.int x2), some (.int x3), some (.int x4), some (.int 0), some (.int 0)] [] I L P
  ))
set_option maxRecDepth 20000 in
theorem g_X12_layPart_26 {d : Nat} {Q : zQt} {p1 : Int32} {x2 : Int32} {x3 : Int32} {x4 : Int32} {I : zI} {L : zL} {P : zP} (hP : zPk P) (hd : 1 ≤ d) (hv : v_X12_layPart_26 d Q p1 x2 x3 x4 I L P) : gw_X12_layPart (d + 1) Q 26 [some (.ref 160), some (.int p1), some (.int x2), some (.int x3), some (.int x4), none, none] [] I L P := by
  unfold v_X12_layPart_26 at hv
  refine z_iload dX12_layPart_26 rfl ?_
  refine z_aload_n dX12_layPart_28 rfl ?_
  obtain ⟨h7, hv⟩ := hv
  refine z_callV (As := []) (st := [.int x4]) dX12_layPart_29 zl_X12_346 zv_X12_worldMany (by decide) rfl zn_160 zo_160 rfl rfl (Nat.le_of_ble_eq_true rfl) ⟨Nat.le_refl _, Nat.le_refl _⟩ ⟨Nat.le_refl _, Nat.le_refl _⟩ (sp_X12_worldMany hP h7 (by omega) (K := fun r I' L' P' => nI (vN I) = r ∧ I = I' ∧ L = L' ∧ P = P') ⟨rfl, rfl, rfl, rfl⟩) (fun v1 I2 L2 P2 nx1 q9 => ?_)
  obtain ⟨rfl, r8, rfl, rfl, rfl, rfl, rfl⟩ := q9
  refine z_icmp_ge (tgt := 130) dX12_layPart_32 (by decide) (fun q10 => ?_) (fun q10 => ?_)
  · have hv := hv.1 q10
    refine z_iinc (v2 := x3 + 1) (lv2 := [some (.ref 160), some (.int p1), some (.int x2), some (.int (x3 + 1)), some (.int x4), none, none]) dX12_layPart_130 rfl (by rfl) (by decide) rfl rfl ?_
    refine z_goto (tgt := 18) dX12_layPart_133 (by decide) ?_
    exact z_sub (by exact ⟨rfl, ⟨rfl, ⟨rfl, ⟨rfl, trivial⟩⟩⟩⟩) hv
  · have hv := hv.2 q10
    refine z_iconst (v := 0) dX12_layPart_35 (by decide) ?_
    refine z_istore (lv2 := [some (.ref 160), some (.int p1), some (.int x2), some (.int x3), some (.int x4), some (.int 0), none]) dX12_layPart_36 (by decide) rfl rfl ?_
    refine z_iconst (v := 0) dX12_layPart_38 (by decide) ?_
    refine z_istore (lv2 := [some (.ref 160), some (.int p1), some (.int x2), some (.int x3), some (.int x4), some (.int 0), some (.int 0)]) dX12_layPart_39 (by decide) rfl rfl ?_
    exact hv
abbrev v_X12_layPart_18 (d : Nat) (Q : zQt) (p1 : Int32) (x2 : Int32) (x3 : Int32) (I : zI) (L : zL) (P : zP) : Prop :=
  ((x2 ≤ x3 →
    Q none I L P 205
  ) ∧ (¬ x2 ≤ x3 →
    gw_X12_layPart (d + 1) Q 26 [some (.ref 160), some (.int p1), some (.int x2), some (.int x3), some (.int 0), none, none] [] I L P
  ))
set_option maxRecDepth 20000 in
theorem g_X12_layPart_18 {d : Nat} {Q : zQt} {p1 : Int32} {x2 : Int32} {x3 : Int32} {I : zI} {L : zL} {P : zP} (hP : zPk P) (hd : 1 ≤ d) (hv : v_X12_layPart_18 d Q p1 x2 x3 I L P) : gw_X12_layPart (d + 1) Q 18 [some (.ref 160), some (.int p1), some (.int x2), some (.int x3), none, none, none] [] I L P := by
  unfold v_X12_layPart_18 at hv
  refine z_iload_n dX12_layPart_18 rfl ?_
  refine z_iload_n dX12_layPart_19 rfl ?_
  refine z_icmp_ge (tgt := 136) dX12_layPart_20 (by decide) (fun q6 => ?_) (fun q6 => ?_)
  · have hv := hv.1 q6
    exact z_return dX12_layPart_136 rfl (Nat.le_refl _) (Nat.le_refl _) hv
  · have hv := hv.2 q6
    refine z_iconst (v := 0) dX12_layPart_23 (by decide) ?_
    refine z_istore (lv2 := [some (.ref 160), some (.int p1), some (.int x2), some (.int x3), some (.int 0), none, none]) dX12_layPart_24 (by decide) rfl rfl ?_
    exact hv
abbrev v_X12_layPart (d : Nat) (Q : zQt) (p1 : Int32) (I : zI) (L : zL) (P : zP) : Prop :=
  ∀ I2 : zI, I2 = zuI I 184 (0 : Int32).toNatClampNeg p1 →
  vp_in p1 256 ∧
  ∀ I5 : zI, I5 = zuI I2 186 p1.toNatClampNeg p1 →
  gw_X12_layPart (d + 1) Q 18 [some (.ref 160), some (.int p1), some (.int 1), some (.int 0), none, none, none] [] I5 L P
set_option maxRecDepth 20000 in
theorem g_X12_layPart {d : Nat} {Q : zQt} {p1 : Int32} {I : zI} {L : zL} {P : zP} (hP : zPk P) (hd : 1 ≤ d) (hv : v_X12_layPart d Q p1 I L P) : zM zm_X12_layPart (d + 1) 0 0 [.ref 160, .int p1] I L P 205 Q := by
  unfold v_X12_layPart at hv
  refine zM_of (lv0 := [some (.ref 160), some (.int p1), none, none, none, none, none]) (by decide +kernel) (Nat.le_of_ble_eq_true rfl) rfl ?_
  refine z_iconst (v := 1) dX12_layPart_0 (by decide) ?_
  refine z_istore_n (lv2 := [some (.ref 160), some (.int p1), some (.int 1), none, none, none, none]) dX12_layPart_1 (by decide) rfl rfl ?_
  refine z_aload_n dX12_layPart_2 rfl ?_
  refine z_getP dX12_layPart_3 zf_X12_86 zn_160 zo_160 (fun _ _ _ _ _ => rfl) (hP 160 42 184 zp_160_42) ?_
  refine z_iconst (v := 0) dX12_layPart_6 (by decide) ?_
  refine z_iload_n dX12_layPart_7 rfl ?_
  refine z_iastore dX12_layPart_8 zn_184 zh_184 (by unfold vp_in; decide) (z_nmI (fun I2 e1 => ?_))
  have hv := hv I2 e1
  refine z_aload_n dX12_layPart_9 rfl ?_
  refine z_getP dX12_layPart_10 zf_X12_92 zn_160 zo_160 (fun _ _ _ _ _ => rfl) (hP 160 44 186 zp_160_44) ?_
  refine z_iload_n dX12_layPart_13 rfl ?_
  refine z_iload_n dX12_layPart_14 rfl ?_
  obtain ⟨h3, hv⟩ := hv
  refine z_iastore dX12_layPart_15 zn_186 zh_186 h3 (z_nmI (fun I5 e4 => ?_))
  have hv := hv I5 e4
  refine z_iconst (v := 0) dX12_layPart_16 (by decide) ?_
  refine z_istore_n (lv2 := [some (.ref 160), some (.int p1), some (.int 1), some (.int 0), none, none, none]) dX12_layPart_17 (by decide) rfl rfl ?_
  exact hv
def vCo (I : zI) : Nat → Nat → Prop := sCo (vNp I) (vN I) (vPoss I) (vLike I)
/-- the eyes, and what is possible, stay -/
def mSt (I0 I : zI) : Prop := zFr [184, 186] [46] I0 I
section LAY
variable {d : Nat} {Q : zQt} {I0 : zI} {L : zL} {P : zP} {fr : Nat}
theorem lp_X12_layPart_41 {I : zI} (hP : zPk P) (hE : ME I0) (hF : zFr [184, 186] [] I0 I) (hd : 3 ≤ d) {n i v c : Nat} (hv : v < vN I0) (hc : c < vN I0) (hi : i < 256) (hci : I 184 i = nI c)
    (k : ∀ x5 : Int32, x5 = bP (vPoss I0 v ∧ ¬ 0 ≤ I 186 v ∧ sAd (vNp I0) (vLike I0) c v) → gw_X12_layPart (d + 1) Q 97 [some (.ref 160), some (.int (nI fr)), some (.int (nI n)), some (.int (nI i)), some (.int (nI v)), some (.int x5), none] [] I L P) :
    ∀ m p x5, p + m = vNp I0 → x5 = bP (vPoss I0 v ∧ ¬ 0 ≤ I 186 v ∧ ∃ p', p' < p ∧ vLike I0 p' c v) →
      gw_X12_layPart (d + 1) Q 41 [some (.ref 160), some (.int (nI fr)), some (.int (nI n)), some (.int (nI i)), some (.int (nI v)), some (.int x5), some (.int (nI p))] [] I L P := by
  have hN := vN_le hE.1
  have hnp := hE.1.2.1
  have eP := vNp_fr hF (by decide) (by decide)
  have hE2 := ME_fr hF (by decide) (by decide) (by decide) (by decide) (by decide) hE
  have e180 : I 180 = I0 180 := hF.1 180 (by decide) (by decide)
  intro m
  induction m with
  | zero =>
    intro p x5 hp e5
    have hp2 : p = vNp I0 := by omega
    subst hp2
    refine g_X12_layPart_41 hP (by omega) ⟨hE2.1, fun _ => k x5 e5, fun q => absurd (by rw [eP]; exact nI_le (Nat.le_refl _) (by omega)) q⟩
  | succ m ih =>
    intro p x5 hp e5
    refine g_X12_layPart_41 hP (by omega) ⟨hE2.1, fun q => absurd q (by rw [eP]; exact nI_ge (by omega) (by omega)), fun _ => ⟨nx_in (by omega) (by decide), fun q => ?_, fun q => ⟨fun q2 => ?_, fun q2 => ⟨fun q3 => ?_, fun q3 => ⟨nx_in (by omega) (by decide), ?_⟩⟩⟩⟩⟩
    · rw [nI_cl (by omega), e180] at q
      refine k x5 (e5.trans (bP_c ⟨fun h => absurd q h.1, fun h => absurd q h.1⟩))
    · rw [nI_cl (by omega)] at q2
      refine k x5 (e5.trans (bP_c ⟨fun h => absurd q2 h.2.1, fun h => absurd q2 h.2.1⟩))
    · have q4 := q3
      rw [e5, bP_n] at q4
      refine k x5 (e5.trans (bP_c ⟨fun h => ⟨h.1, h.2.1, ?_⟩, fun _ => q4⟩))
      obtain ⟨p', h1, h2⟩ := h.2.2
      exact ⟨p', by omega, h2⟩
    · rw [nI_cl (by omega), e180] at q
      rw [nI_cl (by omega)] at q2
      rw [nI_cl (by omega), hci]
      refine sp_X12_areLike hP hE2.1 hE2.2.1 hE2.2.2 (by omega) (by omega) (by omega) (by omega) ?_
      rw [nI_1]
      refine ih (p + 1) _ (by omega) ?_
      rw [vLike_fr hF (by decide) (by decide) (by decide) (by decide) (by decide) (by decide)]
      rw [e5, bP_0] at q3
      refine bP_c ⟨fun h => ⟨q, q2, p, by omega, h⟩, fun h => ?_⟩
      obtain ⟨p', h1, h2⟩ := h.2.2
      rcases Nat.lt_succ_iff_lt_or_eq.mp h1 with h' | h'
      · exact absurd ⟨q, q2, p', h', h2⟩ q3
      · subst h'; exact h2
theorem lp_X12_layPart_26 (hP : zPk P) (hE : ME I0) (hd : 3 ≤ d) (hfr : fr < vN I0) {i : Nat}
    (k : ∀ n I, zFr [184, 186] [] I0 I → i < n → n ≤ vN I0 → sLP (vNp I0) (vN I0) (vPoss I0) (vLike I0) (I 186) (I 184) fr n (i + 1) → (∀ u, u < vN I0 → 0 ≤ I0 186 u → I 186 u = I0 186 u) → gw_X12_layPart (d + 1) Q 18 [some (.ref 160), some (.int (nI fr)), some (.int (nI n)), some (.int (nI (i + 1))), none, none, none] [] I L P) :
    ∀ m v n I, v + m = vN I0 → zFr [184, 186] [] I0 I → i < n → n ≤ vN I0 → sLP (vNp I0) (vN I0) (vPoss I0) (vLike I0) (I 186) (I 184) fr n i → (∀ u, u < vN I0 → 0 ≤ I0 186 u → I 186 u = I0 186 u) → (∀ u c, u < v → c < vN I0 → I 184 i = nI c → vPoss I0 u → sAd (vNp I0) (vLike I0) c u → 0 ≤ I 186 u) →
      gw_X12_layPart (d + 1) Q 26 [some (.ref 160), some (.int (nI fr)), some (.int (nI n)), some (.int (nI i)), some (.int (nI v)), none, none] [] I L P := by
  have hN := vN_le hE.1
  intro m
  induction m with
  | zero =>
    intro v n I hv hF hin hnN hLP hold hdone
    have hE2 := ME_fr hF (by decide) (by decide) (by decide) (by decide) (by decide) hE
    have eN := vN_fr hF (by decide) (by decide)
    refine g_X12_layPart_26 hP (by omega) ⟨hE2.1, fun _ => ?_, fun q => absurd (by rw [eN]; exact nI_le (by omega) (by omega)) q⟩
    rw [nI_1]
    obtain ⟨h1, h2, h3, h4, h5, h6⟩ := hLP
    refine k n I hF hin hnN ⟨h1, h2, h3, h4, fun j c u hj hrc hc hu hpu hau => ?_, h6⟩ hold
    rcases Nat.lt_succ_iff_lt_or_eq.mp hj with h | h
    · exact h5 j c u h hrc hc hu hpu hau
    · subst h
      exact hdone u c (by omega) hc hrc hpu hau
  | succ m ih =>
    intro v n I hv hF hin hnN hLP hold hdone
    have hE2 := ME_fr hF (by decide) (by decide) (by decide) (by decide) (by decide) hE
    have eN := vN_fr hF (by decide) (by decide)
    have hLP0 := hLP
    obtain ⟨h1, h2, h3, h4, h5, h6⟩ := hLP
    obtain ⟨c, c1, c2, c3⟩ := h2 i hin
    refine g_X12_layPart_26 hP (by omega) ⟨hE2.1, fun q => absurd q (by rw [eN]; exact nI_ge (by omega) (by omega)), fun _ => ?_⟩
    refine lp_X12_layPart_41 hP hE hF hd (by omega) c1 (by omega) c2 (fun x5 e5 => ?_) (vNp I0) 0 0 (by omega) (bP_f (fun h => by obtain ⟨p', h', -⟩ := h.2.2; exact absurd h' (Nat.not_lt_zero p'))).symm
    refine g_X12_layPart_97 hP (by omega) ⟨fun q => ⟨nx_in (by omega) (by decide), fun I1 e1 => ?_⟩, fun q => ?_⟩
    · rw [e5, bP_n] at q
      have hn1 := sLP_n hN hfr hLP0 (by omega) q.2.1
      refine ⟨nx_in (by omega) (by decide), fun I2 e2 => ?_⟩
      rw [nI_cl (by omega)] at e1 e2
      subst e1
      subst e2
      rw [nI_1, nI_1]
      have g1 : zuI (zuI I 186 v (nI fr)) 184 n (nI v) 186 = upd (I 186) v (nI fr) := by rw [zuI_ne (by decide), zuI_at]
      have g2 : zuI (zuI I 186 v (nI fr)) 184 n (nI v) 184 = upd (I 184) n (nI v) := by rw [zuI_at, zuI_ne (by decide)]
      have hLP1 := sLP_add hN hfr hLP0 (by omega) c1 c3 (by omega) q.2.1 q.1 q.2.2
      refine ih (v + 1) (n + 1) _ (by omega) (zFr_c (zFr_c hF (by decide) (by decide)) (by decide) (by decide)) (by omega) hn1 (by rw [g1, g2]; exact hLP1) (fun u hu hu0 => ?_) (fun u c' hu hc' hrc hpu hau => ?_)
      · rw [g1, pk_un ?_]
        · exact hold u hu hu0
        · intro e; subst e
          rw [hold u hu hu0] at q
          exact q.2.1 hu0
      · rw [g2, pk_un (by omega)] at hrc
        rw [g1]
        by_cases huv : u = v
        · subst huv; rw [pk_us]; exact nI_pos' (by omega)
        · rw [pk_un huv]; exact hdone u c' (by omega) hc' hrc hpu hau
    · rw [e5, bP_0] at q
      rw [nI_1]
      refine ih (v + 1) n I (by omega) hF hin hnN hLP0 hold (fun u c' hu hc' hrc hpu hau => ?_)
      rcases Nat.lt_succ_iff_lt_or_eq.mp hu with h | h
      · exact hdone u c' h hc' hrc hpu hau
      · subst h
        have : c' = c := (nI_eq (by omega) (by omega)).mp (hrc.symm.trans c2)
        subst this
        exact Classical.byContradiction (fun hz => q ⟨hpu, hz, hau⟩)
theorem lp_X12_layPart_18 (hP : zPk P) (hE : ME I0) (hd : 3 ≤ d) (hfr : fr < vN I0)
    (k : ∀ n I, zFr [184, 186] [] I0 I → sLP (vNp I0) (vN I0) (vPoss I0) (vLike I0) (I 186) (I 184) fr n n → (∀ u, u < vN I0 → 0 ≤ I0 186 u → I 186 u = I0 186 u) → Q none I L P 205) :
    ∀ m i n I, i + m = vN I0 → zFr [184, 186] [] I0 I → i ≤ n → n ≤ vN I0 → sLP (vNp I0) (vN I0) (vPoss I0) (vLike I0) (I 186) (I 184) fr n i → (∀ u, u < vN I0 → 0 ≤ I0 186 u → I 186 u = I0 186 u) →
      gw_X12_layPart (d + 1) Q 18 [some (.ref 160), some (.int (nI fr)), some (.int (nI n)), some (.int (nI i)), none, none, none] [] I L P := by
  have hN := vN_le hE.1
  intro m
  induction m with
  | zero =>
    intro i n I hi hF hin hnN hLP hold
    have : i = n := by omega
    subst this
    exact g_X12_layPart_18 hP (by omega) ⟨fun _ => k i I hF hLP hold, fun q => absurd (nI_le (Nat.le_refl _) (by omega)) q⟩
  | succ m ih =>
    intro i n I hi hF hin hnN hLP hold
    by_cases hc : i = n
    · subst hc
      exact g_X12_layPart_18 hP (by omega) ⟨fun _ => k i I hF hLP hold, fun q => absurd (nI_le (Nat.le_refl _) (by omega)) q⟩
    · refine g_X12_layPart_18 hP (by omega) ⟨fun q => absurd q (nI_ge (by omega) (by omega)), fun _ => ?_⟩
      exact lp_X12_layPart_26 hP hE hd hfr (fun n2 I2 a1 a2 a3 a4 a5 => ih (i + 1) n2 I2 (by omega) a1 a2 a3 a4 a5) (vN I0) 0 n I (by omega) hF (by omega) hnN hLP hold (fun u c hu => absurd hu (Nat.not_lt_zero u))
end LAY
theorem sp_X12_layPart {d : Nat} {I : zI} {L : zL} {P : zP} {fr : Nat} (hP : zPk P) (hE : ME I) (hfr : fr < vN I) (hb : sLb (vNp I) (vN I) (vPoss I) (vLike I) (I 186)) (hq : ¬ 0 ≤ I 186 fr) (hp : vPoss I fr) (hd : 4 ≤ d) {K : zI → zL → zP → Prop}
    (k : ∀ I', zFr [184, 186] [] I I' → sLb (vNp I) (vN I) (vPoss I) (vLike I) (I' 186) → (∀ u, u < vN I → 0 ≤ I 186 u → I' 186 u = I 186 u) → 0 ≤ I' 186 fr → K I' L P) : zMv zm_X12_layPart d [.ref 160, .int (nI fr)] I L P K := by
  obtain ⟨d, rfl⟩ : ∃ e, d = e + 1 := ⟨d - 1, by omega⟩
  have hN := vN_le hE.1
  refine g_X12_layPart hP (by omega) (fun I1 e1 => ⟨nx_in (by omega) (by decide), fun I2 e2 => ?_⟩)
  have c0 : (0 : Int32).toNatClampNeg = 0 := by decide
  rw [c0] at e1
  rw [nI_cl (by omega)] at e2
  subst e1
  subst e2
  have hF : zFr [184, 186] [] I (zuI (zuI I 184 0 (nI fr)) 186 fr (nI fr)) := zFr_c (zFr_c (zFr_rf _ _ _) (by decide) (by decide)) (by decide) (by decide)
  have g1 : zuI (zuI I 184 0 (nI fr)) 186 fr (nI fr) 186 = upd (I 186) fr (nI fr) := by rw [zuI_at, zuI_ne (by decide)]
  have g2 : zuI (zuI I 184 0 (nI fr)) 186 fr (nI fr) 184 = upd (I 184) 0 (nI fr) := by rw [zuI_ne (by decide), zuI_at]
  have hE2 := ME_fr hF (by decide) (by decide) (by decide) (by decide) (by decide) hE
  have eN := vN_fr hF (by decide) (by decide)
  have eP := vNp_fr hF (by decide) (by decide)
  have eL : vLike (zuI (zuI I 184 0 (nI fr)) 186 fr (nI fr)) = vLike I := by
    funext p a b
    exact vLike_fr hF (by decide) (by decide) (by decide) (by decide) (by decide) (by decide) p a b
  have eO : vPoss (zuI (zuI I 184 0 (nI fr)) 186 fr (nI fr)) = vPoss I := by
    funext w
    unfold vPoss
    rw [hF.1 180 (by decide) (by decide)]
  have hLP := sLP_begin (rc := I 184) hN hfr hb hq hp
  have hL : ∀ u, u < vN I → 0 ≤ I 186 u → u ≠ fr := fun u _ h e => hq (e ▸ h)
  refine lp_X12_layPart_18 (I0 := zuI (zuI I 184 0 (nI fr)) 186 fr (nI fr)) hP hE2 (by omega) (by rw [eN]; exact hfr) (fun n I3 h1 h2 h3 => qv (k I3 (zFr_tr hF h1) ?_ ?_ ?_)) (vN I) 0 1 _ (by rw [eN]; omega) (zFr_rf _ _ _) (by omega) (by rw [eN]; exact vN_pos I) (by rw [eN, eP, eL, eO, g1, g2]; exact hLP) (fun _ _ _ => rfl)
  · have := sLP_end (fun p a b => by rw [eL]; exact vLike_sy I p a b) (by rw [eN]; exact hN) (by rw [eN]; exact hfr) h2
    rw [eN, eP, eL, eO] at this
    exact this
  · intro u hu hu0
    have := h3 u (by rw [eN]; exact hu) (by rw [g1, pk_un (hL u hu hu0)]; exact hu0)
    rw [this, g1, pk_un (hL u hu hu0)]
  · have := h3 fr (by rw [eN]; exact hfr) (by rw [g1, pk_us]; exact nI_pos' (by omega))
    rw [this, g1, pk_us]
    exact nI_pos' (by omega)
