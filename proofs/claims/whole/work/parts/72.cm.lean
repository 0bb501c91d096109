/-! ===== the class's scenes in the words of the reference ===== -/
/-- the worlds of a kind, the least first -/
noncomputable def lP (po : Nat → Prop) (N : Nat) : List Nat := cK po (List.range N)
theorem lP_mem {po : Nat → Prop} {N w : Nat} : w ∈ lP po N ↔ w < N ∧ po w := by unfold lP; rw [cK_mem, List.mem_range]
theorem cK_sub (f : Nat → Prop) : ∀ xs, (cK f xs).Sublist xs
  | [] => List.Sublist.slnil
  | x :: a => by
    unfold cK
    by_cases h : f x
    · rw [if_pos h]; exact (cK_sub f a).cons_cons x
    · rw [if_neg h]; exact (cK_sub f a).cons x
theorem lP_nd (po : Nat → Prop) (N : Nat) : (lP po N).Nodup := (cK_sub po _).nodup List.nodup_range
theorem lP_len (po : Nat → Prop) : ∀ N, (lP po N).length = cP po N
  | 0 => rfl
  | N + 1 => by
    unfold lP
    rw [List.range_succ]
    by_cases h : po N
    · rw [cK_1 _ h, List.length_append, List.length_singleton, cP_t h]
      have := lP_len po N
      unfold lP at this
      omega
    · rw [cK_0 _ h, cP_f h]; exact lP_len po N
theorem cK_K (f po : Nat → Prop) : ∀ xs, cK f (cK po xs) = cK (fun w => po w ∧ f w) xs
  | [] => rfl
  | x :: a => by
    have ih := cK_K f po a
    rw [show cK po (x :: a) = @ite _ (po x) (Classical.propDecidable _) (x :: cK po a) (cK po a) from rfl, show cK (fun w => po w ∧ f w) (x :: a) = @ite _ (po x ∧ f x) (Classical.propDecidable _) (x :: cK (fun w => po w ∧ f w) a) (cK (fun w => po w ∧ f w) a) from rfl]
    by_cases h : po x
    · rw [if_pos h]
      rw [show cK f (x :: cK po a) = @ite _ (f x) (Classical.propDecidable _) (x :: cK f (cK po a)) (cK f (cK po a)) from rfl]
      by_cases h2 : f x
      · rw [if_pos h2, if_pos ⟨h, h2⟩, ih]
      · rw [if_neg h2, if_neg (fun z => h2 z.2), ih]
    · rw [if_neg h, if_neg (fun z => h z.1), ih]
theorem lP_K (f po : Nat → Prop) (N : Nat) : cK f (lP po N) = lP (fun w => po w ∧ f w) N := cK_K f po _
theorem lP_c {po po' : Nat → Prop} {N : Nat} (h : ∀ w, w < N → (po w ↔ po' w)) : lP po N = lP po' N := cK_c (fun w hw => h w (List.mem_range.mp hw))
theorem lP_all (N : Nat) {po : Nat → Prop} (h : ∀ w, w < N → po w) : lP po N = List.range N := by
  have : ∀ xs : List Nat, (∀ w ∈ xs, po w) → cK po xs = xs := by
    intro xs
    induction xs with
    | nil => intro _; rfl
    | cons x a ih => intro h; unfold cK; rw [if_pos (h x (by simp)), ih (fun w hw => h w (by simp [hw]))]
  exact this _ (fun w hw => h w (List.mem_range.mp hw))
/-- the island t is that of the reference M -/
def tR (M I : zI) (t st : Nat) (b : Nat → Nat) (cd : Nat → Cd) : Prop := iH t (vNp M) I ∧ I t 1 = nI (vTw M) ∧ iLw t I (vOwn M) st ∧ (∀ p, p < vNp M → (st.testBit p = true ↔ vSty M p)) ∧ (∀ p, p < vNp M → I (t + 2) p = nI (vSee M p)) ∧ iSy t (vNp M) I (vNs M) b cd ∧ ∀ i, i < vNs M → cMp (cd i) = vSy M i
theorem tR_c {M I I' : zI} {t st : Nat} {b : Nat → Nat} {cd : Nat → Cd} (h : tR M I t st b cd) (e : ∀ a, t ≤ a → a ≤ t + 5 → I' a = I a) : tR M I' t st b cd := by
  obtain ⟨h1, h2, h3, h4, h5, h6, h7⟩ := h
  have e0 := e t (by omega) (by omega)
  exact ⟨iH_c h1 e0, by rw [e0]; exact h2, iLw_c h3 e0, h4, fun p hp => by rw [e (t + 2) (by omega) (by omega)]; exact h5 p hp, iSy_c h6 e0 (e (t + 3) (by omega) (by omega)) (e (t + 4) (by omega) (by omega)) (e (t + 5) (by omega) (by omega)), h7⟩
/-- groups are what is alike -/
def gLk (M : zI) (po : Nat → Prop) (g : Nat → Nat → Nat) : Prop := ∀ p, p < vNp M → ∀ a b, a < vN M → b < vN M → po a → po b → (g p b = g p a ↔ vLike M p a b)
theorem gLk_s {M : zI} {po po' : Nat → Prop} {g : Nat → Nat → Nat} (h : gLk M po g) (hs : ∀ w, w < vN M → po' w → po w) : gLk M po' g := fun p hp a b ha hb pa pb => h p hp a b ha hb (hs a ha pa) (hs b hb pb)
def sV (P : zP) (s l v t : Nat) (M I : zI) (po : Nat → Prop) (g : Nat → Nat → Nat) (gn : Nat) : Prop := wH P s l v t (vNp M) (vN M) (lP po (vN M)) g I ∧ gLk M po g ∧ (I s 4 = nI gn ∧ gn < 256) ∧ po (vTw M)
section BR
variable {d : Nat} {M I : zI} {L : zL} {P : zP} {s l v t st gn : Nat} {b : Nat → Nat} {cd : Nat → Cd} {po : Nat → Prop} {g : Nat → Nat → Nat}
theorem sV_ag (hg : gLk M po g) : ∀ p a b, p < vNp M → a < vN M → b < vN M → xo (lP po (vN M)) a → xo (lP po (vN M)) b → (gk g p a b ↔ vLike M p a b) := fun p a b hp ha hb xa xb => hg p hp a b ha hb (lP_mem.mp xa).2 (lP_mem.mp xb).2
theorem sV_po {w : Nat} (hw : w < vN M) : xo (lP po (vN M)) w ↔ po w := ⟨fun h => (lP_mem.mp h).2, fun h => lP_mem.mpr ⟨hw, h⟩⟩
/-- who goes, by groups and by what is alike -/
theorem goers_ag (hg : gLk M po g) (hst : ∀ p, p < vNp M → (st.testBit p = true ↔ vSty M p)) {w : Nat} (hw : w < vN M) (pw : po w) : bset (cGo (vN M) (lP po (vN M)) g (vOwn M) (gn ||| st) w) (vNp M) = aGs M po gn w := by
  refine bset_c (fun p hp => ?_)
  have ag : ∀ b, sHas (vN M) (xo (lP po (vN M))) (gk g p) p w b ↔ sHas (vN M) po (vLike M p) p w b := fun b => sHas_ag (fun u hu => sV_po hu) (fun u hu xu => sV_ag hg p w u hp hw hu ((sV_po hw).mpr pw) xu)
  unfold cGo sGo
  rw [ag true, ag false, Nat.testBit_or, Bool.or_eq_true, hst p hp]
  constructor
  · rintro ⟨h1, h2⟩; exact ⟨fun z => h1 (Or.inl z), fun z => h1 (Or.inr z), h2⟩
  · rintro ⟨h1, h2, h3⟩; exact ⟨fun z => z.elim h1 h2, h3⟩
theorem b_pass (hP : zPk P) (hT : MT M) (hR : tR M I t st b cd) (hV : sV P s l v t M I po g gn) (hd : 2 ≤ d) {K : Int32 → zI → zL → zP → Prop}
    (kk : ∀ I', cFr [70, 72, s, l] I I' → sV P s l v t M I' (aPo M po gn) g (aGn M po gn) → I' s 3 = nI (cP (aPo M po gn) (vN M)) → I' s 5 = I s 5 + 1 → I' s 6 = I s 6 → K (nI (aGs M po gn (vTw M))) I' L P) : zMi zm_X4_pass d [.ref 23, .ref s] I L P K := by
  obtain ⟨hW, hg, ⟨h4, hgn⟩, htw⟩ := hV
  obtain ⟨w1, w2, w3, w4, w5, w6, w7⟩ := hW
  obtain ⟨r1, r2, r3, r4, r5, r6, r7⟩ := hR
  have hm : vTw M ∈ lP po (vN M) := lP_mem.mpr ⟨hT.1, htw⟩
  have hsc := w1
  have hil := r1.1
  unfold sc at hsc
  unfold il at hil
  refine sp_X4_pass hP w1 w2 w3 w4 w7 w5 w6 r3 h4 hgn r2 hm hd (fun I' f1 f2 f3 f4 f5 => ?_)
  have ek : cK (fun w => bset (cGo (vN M) (lP po (vN M)) g (vOwn M) (gn ||| st) w) (vNp M) = bset (cGo (vN M) (lP po (vN M)) g (vOwn M) (gn ||| st) (vTw M)) (vNp M)) (lP po (vN M)) = lP (aPo M po gn) (vN M) := by
    rw [cK_c (f' := fun w => aGs M po gn w = aGs M po gn (vTw M)) (fun w hw => by rw [goers_ag hg r4 (lP_mem.mp hw).1 (lP_mem.mp hw).2, goers_ag hg r4 hT.1 htw]), lP_K]
    rfl
  rw [ek] at f2
  rw [goers_ag hg r4 hT.1 htw] at f3 ⊢
  have hlt : aGs M po gn (vTw M) < 256 := Nat.lt_of_lt_of_le (bset_lt _ _) (pw8 r1.2.1)
  have sub : ∀ w, w < vN M → aPo M po gn w → po w := fun w _ h => h.1
  refine kk I' f1 ⟨⟨w1, f2, lP_nd _ _, fun w hw => (lP_mem.mp hw).1, w5, iH_c w6 (f1 t (by simp only [List.mem_cons, List.not_mem_nil, or_false]; omega)), fun p hp => ?_⟩, gLk_s hg sub, ⟨f3, or256 hgn hlt⟩, ⟨htw, rfl⟩⟩ (by rw [f2.1, lP_len]) f4 f5
  have hp8 := r1.2.1
  intro w hw
  rw [f1 (v + 2 + p) (by simp only [List.mem_cons, List.not_mem_nil, or_false]; omega)]
  exact w7 p hp w (lP_mem.mpr ⟨(lP_mem.mp hw).1, (lP_mem.mp hw).2.1⟩)
/-- a row in the words of the reference -/
theorem row_ag (hg : gLk M po g) (hnp : vNp M ≤ 8) {cs : List (Int32 × Int32)} (hG : eGd (vNp M) cs) {w : Nat} (hw : w < vN M) (pw : po w) : eRun (vNp M) (vN M) (xo (lP po (vN M))) (gk g) (nI gn) cs 0 (fun _ _ => 0) 0 w = aRw M po gn cs w := by
  unfold aRw
  exact eRun_ag (T := xo (lP po (vN M))) (fun u _ h => h) (fun u hu => sV_po hu) (sV_ag hg) hnp cs 0 _ _ hG.1 (fun _ _ _ _ _ => rfl) 0 w (by rw [hG.2]; decide) hw ((sV_po hw).mpr pw)
theorem b_weigh {c n i : Nat} {cs : Cd} (hP : zPk P) (hV : sV P s l v t M I po g gn) (hc : co c) (hn : I c 1 = nI n) (h6 : n ≤ 600) (hi : i + cs.length ≤ n) (hTc : cT c I i cs) (hE : ∀ x ∈ cs, cE (vNp M) x) (hG : eGd (vNp M) (cMp cs)) (hd : 3 ≤ d) {K : zI → zL → zP → Prop}
    (kk : ∀ I', wMf I I' → (∀ w, w < vN M → po w → I' 25 w = aRw M po gn (cMp cs) w) → K I' L P) : zMv zm_X4_weigh d [.ref 23, .ref s, .ref c, .int (nI i), .int (nI (i + cs.length))] I L P K := by
  obtain ⟨hW, hg, ⟨h4, hgn⟩, htw⟩ := hV
  have hnp := hW.2.2.2.2.2.1.2.1
  refine sp_X4_weigh hP hW hc hn h6 h4 hi hTc hE hG hd (fun I' f1 f2 => kk I' f1 (fun w hw pw => ?_))
  rw [f2 w (lP_mem.mpr ⟨hw, pw⟩)]
  exact row_ag hg hnp hG hw pw
theorem b_say {i : Nat} (hP : zPk P) (hR : tR M I t st b cd) (hV : sV P s l v t M I po g gn) (hi : i < vNs M) (hd : 4 ≤ d) {K : zI → zL → zP → Prop}
    (kk : ∀ I', wMf I I' → (∀ w, w < vN M → po w → I' 25 w = aRw M po gn (vSy M i) w) → K I' L P) : zMv zm_X4_weighSaying d [.ref 23, .ref s, .int (nI i)] I L P K := by
  obtain ⟨hW, hg, ⟨h4, hgn⟩, htw⟩ := hV
  obtain ⟨r1, r2, r3, r4, r5, r6, r7⟩ := hR
  have hnp := hW.2.2.2.2.2.1.2.1
  refine sp_X4_weighSaying hP hW r6 hi h4 hd (fun I' f1 f2 => kk I' f1 (fun w hw pw => ?_))
  rw [f2 w (lP_mem.mpr ⟨hw, pw⟩), row_ag hg hnp (r6.2.2.2.2 i hi).2.2.2.2.2.2 hw pw, r7 i hi]
theorem sV_w {I' : zI} (hV : sV P s l v t M I po g gn) (hf : wMf I I') : sV P s l v t M I' po g gn := by
  obtain ⟨hW, hg, ⟨h4, hgn⟩, htw⟩ := hV
  have hsc := hW.1
  unfold sc at hsc
  exact ⟨wH_w hW hf, hg, ⟨by rw [hf s (by omega)]; exact h4, hgn⟩, htw⟩
theorem tR_w {I' : zI} (hR : tR M I t st b cd) (hf : wMf I I') : tR M I' t st b cd := by
  have hil := hR.1.1
  unfold il at hil
  exact tR_c hR (fun a h1 h2 => hf a (by omega))
/-- how many are struck -/
theorem struck_n {f : Nat → Prop} : (lP po (vN M)).length - (lP (fun w => po w ∧ ¬ f w) (vN M)).length = cP (fun w => po w ∧ f w) (vN M) := by
  rw [lP_len, lP_len]
  have : ∀ N, cP po N = cP (fun w => po w ∧ ¬ f w) N + cP (fun w => po w ∧ f w) N := by
    intro N
    induction N with
    | zero => rfl
    | succ N ih =>
      by_cases h : po N
      · by_cases hf : f N
        · rw [cP_t h, cP_f (f := fun w => po w ∧ ¬ f w) (fun z => z.2 hf), cP_t (f := fun w => po w ∧ f w) ⟨h, hf⟩]; omega
        · rw [cP_t h, cP_t (f := fun w => po w ∧ ¬ f w) ⟨h, hf⟩, cP_f (f := fun w => po w ∧ f w) (fun z => hf z.2)]; omega
      · rw [cP_f h, cP_f (f := fun w => po w ∧ ¬ f w) (fun z => h z.1), cP_f (f := fun w => po w ∧ f w) (fun z => h z.1)]; exact ih
  have := this (vN M)
  omega
theorem b_hear {r : Nat → Int32} (hP : zPk P) (hT : MT M) (hR : tR M I t st b cd) (hV : sV P s l v t M I po g gn) (hr : ∀ w, w < vN M → po w → I 25 w = r w) (hd : 1 ≤ d) {K : Int32 → zI → zL → zP → Prop}
    (k0 : r (vTw M) = 0 → K (-1) I L P)
    (kk : ¬ r (vTw M) = 0 → ∀ I', cFr [s, l] I I' → (∀ k, k ≠ 3 → I' s k = I s k) → sV P s l v t M I' (fun w => po w ∧ ¬ r w = 0) g gn → K (nI (cP (fun w => po w ∧ r w = 0) (vN M))) I' L P) : zMi zm_X6_hear d [.ref s, .ref 25] I L P K := by
  obtain ⟨hW, hg, ⟨h4, hgn⟩, htw⟩ := hV
  obtain ⟨w1, w2, w3, w4, w5, w6, w7⟩ := hW
  obtain ⟨r1, r2, r3, r4, r5, r6, r7⟩ := hR
  have hsc := w1
  have hil := r1.1
  unfold sc at hsc
  unfold il at hil
  have hm : vTw M ∈ lP po (vN M) := lP_mem.mpr ⟨hT.1, htw⟩
  have er := hr _ hT.1 htw
  refine sp_X6_hear hP w1 w2 w5 r1.1 r2 (w2.2.2.1 _ hm) hd (fun q => k0 (by rw [← er]; exact q)) (fun q I' f1 f2 f3 => ?_)
  rw [er] at q
  have ek : cK (fun w => ¬ I 25 w = 0) (lP po (vN M)) = lP (fun w => po w ∧ ¬ r w = 0) (vN M) := by
    rw [cK_c (f' := fun w => ¬ r w = 0) (fun w hw => by rw [hr w (lP_mem.mp hw).1 (lP_mem.mp hw).2]), lP_K]
  rw [ek] at f3 ⊢
  rw [struck_n (f := fun w => r w = 0)]
  refine kk q I' f1 f2 ⟨⟨w1, f3, lP_nd _ _, fun w hw => (lP_mem.mp hw).1, w5, iH_c w6 (f1 t (by simp only [List.mem_cons, List.not_mem_nil, or_false]; omega)), fun p hp => ?_⟩, gLk_s hg (fun w _ h => h.1), ⟨by rw [f2 4 (by decide)]; exact h4, hgn⟩, ⟨htw, q⟩⟩
  have hp8 := r1.2.1
  intro w hw
  rw [f1 (v + 2 + p) (by simp only [List.mem_cons, List.not_mem_nil, or_false]; omega)]
  exact w7 p hp w (lP_mem.mpr ⟨(lP_mem.mp hw).1, (lP_mem.mp hw).2.1⟩)
end BR
