/-! ===== class and model: the relation ===== -/
/-- the island t of the class is that of M -/
def rIl (M I : zI) (L : zL) (t st : Nat) (b : Nat → Nat) (cd : Nat → Cd) : Prop := tR M I t st b cd ∧ I t 5 = M 166 (vB M) ∧ ∀ k, k < vNp M → L (t + 1) k = L 174 (8 * vB M + k)
/-- a scene of the class is that of M -/
def rSc (P : zP) (s l v t : Nat) (M I : zI) (g : Nat → Nat → Nat) : Prop := sV P s l v t M I (vPoss M) g (vGn M) ∧ I s 5 = M 160 39 ∧ I s 6 = M 160 38 ∧ ∃ j, j ≤ 300 ∧ M 160 39 = nI j
/-- the boxes -/
def rBx (M I : zI) (P : zP) (t : Nat) : Prop := ∀ k, k < 3 → I 89 k = bP (0 ≤ M 199 k) ∧ (0 ≤ M 199 k → ∃ Mb, bHd M k Mb ∧ mE M Mb ∧ MSc Mb ∧ MCb Mb ∧ ∃ g, rSc P (121 + 13 * k) (133 + 13 * k) (122 + 13 * k) t Mb I g)
def rPp (P : zP) (t : Nat) : Prop := zPk P ∧ P 0 2 = some t ∧ P 0 3 = some (16 - t)
def rMd (M : zI) : Prop := MSc M ∧ MCb M ∧ MTp M ∧ MH M ∧ ∃ j, j ≤ 100000 ∧ M 160 60 = nI j
/-- the reader's words; the first saying of either island starts at 0 -/
def wdI (I : zI) (L : zL) : Prop := wdR L ∧ I 10 0 = 0 ∧ I 16 0 = 0
/-- class and model are one -/
def Rl (M I : zI) (L : zL) (P : zP) (t st : Nat) (b : Nat → Nat) (cd : Nat → Cd) : Prop :=
  rPp P t ∧ rMd M ∧ rIl M I L t st b cd ∧ tpR I (vTt M) (vTp M) ∧ (I 17 0 = M 160 4 ∧ I 17 1 = M 160 5) ∧ (∃ g, rSc P 73 85 74 t M I g) ∧ rBx M I P t ∧ sgR M I ∧ gK M I ∧ wdI I L
section RL0
variable {M M' I I' : zI} {L L' : zL} {P P' : zP} {t st : Nat} {b : Nat → Nat} {cd : Nat → Cd} {s l v : Nat} {g : Nat → Nat → Nat}
theorem rSc_c (h : rSc P s l v t M I g) (hf : ∀ a, (a = s ∨ a = l ∨ a = t ∨ (v ≤ a ∧ a ≤ v + 10)) → I' a = I a) (hp : P' s 1 = P s 1) : rSc P' s l v t M I' g := by
  obtain ⟨⟨h1, h2, h3, h4⟩, h5, h6, h7⟩ := h
  obtain ⟨w1, w2, w3, w4, w5, w6, w7⟩ := wH_fr h1 hf
  have es := hf s (Or.inl rfl)
  exact ⟨⟨⟨w1, w2, w3, w4, by rw [hp]; exact w5, w6, w7⟩, h2, by rw [es]; exact h3, h4⟩, by rw [es]; exact h5, by rw [es]; exact h6, h7⟩
/-- the same scene of another heap -/
theorem rSc_m (h : rSc P s l v t M I g) (hE : mE M M') (hS : mSe M M') (hM : MSc M) : rSc P s l v t M' I g := by
  obtain ⟨⟨h1, h2, h3, h4⟩, h5, h6, h7⟩ := h
  have hN := vN_le hM.1.1
  have eN := mE_n hE
  have eP : lP (vPoss M') (vN M) = lP (vPoss M) (vN M) := lP_c (fun w hw => mSe_po hS (by omega))
  refine ⟨⟨by rw [mE_np hE, eN, eP]; exact h1, ?_, by rw [mSe_gn hS]; exact h3, ?_⟩, by rw [hS.2.2.2.2.1]; exact h5, by rw [hS.2.2.2.1]; exact h6, by rw [hS.2.2.2.2.1]; exact h7⟩
  · intro p hp a b ha hb pa pb
    rw [mE_np hE] at hp
    rw [eN] at ha hb
    rw [mSe_lk hE hS hM.1.2.2 (by omega) (by omega)]
    exact h2 p hp a b ha hb ((mSe_po hS (by omega)).mp pa) ((mSe_po hS (by omega)).mp pb)
  · rw [mE_tw hE]
    exact (mSe_po hS (by have := hM.2.1.1; omega)).mpr h4
theorem rIl_c (h : rIl M I L t st b cd) (e : ∀ a, t ≤ a → a ≤ t + 5 → I' a = I a) (e1 : L' (t + 1) = L (t + 1)) (e2 : L' 174 = L 174) : rIl M I' L' t st b cd := by
  obtain ⟨h1, h2, h3⟩ := h
  exact ⟨tR_c h1 e, by rw [e t (Nat.le_refl _) (by omega)]; exact h2, fun k hk => by rw [e1, e2]; exact h3 k hk⟩
theorem rIl_m (h : rIl M I L t st b cd) (hE : mE M M') (hM : MSc M) (hb : MCb M) : rIl M' I L t st b cd := by
  obtain ⟨⟨h1, h2, h3, h4, h5, h6, h7⟩, h8, h9⟩ := h
  obtain ⟨-, -, hY⟩ := mE_C hE hM.1.1 hb hM.2.2.1
  have b2 := hM.1.1.1.1
  refine ⟨⟨by rw [mE_np hE]; exact h1, by rw [mE_tw hE]; exact h2, by rw [mE_ow hE]; exact h3, by rw [mE_np hE, mE_st hE]; exact h4, by rw [mE_np hE, mE_se hE]; exact h5, by rw [mE_np hE, mE_ns hE]; exact h6, fun i hi => ?_⟩, ?_, by rw [mE_np hE, mE_B hE]; exact h9⟩
  · rw [mE_ns hE] at hi
    rw [hY i hi]; exact h7 i hi
  · rw [mE_B hE, hE.2.1 _ (by omega)]; exact h8
theorem rBx_c (ht : il t) (h : rBx M I P t) (e89 : I' 89 = I 89) (et : I' t = I t) (hf : ∀ a, 121 ≤ a → a < 160 → I' a = I a) (hp : ∀ k, k < 3 → P' (121 + 13 * k) 1 = P (121 + 13 * k) 1) : rBx M I' P' t := by
  intro k hk
  obtain ⟨h1, h2⟩ := h k hk
  refine ⟨by rw [e89]; exact h1, fun z => ?_⟩
  obtain ⟨Mb, a1, a2, a3, a4, g, a5⟩ := h2 z
  refine ⟨Mb, a1, a2, a3, a4, g, rSc_c a5 (fun a ha => ?_) (hp k hk)⟩
  rcases ha with y | y | y | y
  · exact hf a (by omega) (by omega)
  · exact hf a (by omega) (by omega)
  · rw [y]; exact et
  · exact hf a (by omega) (by omega)
theorem bHd_o {k : Nat} {Mb : zI} (hk : k ≠ 3) (h : bHd M k Mb) (ho : bOt M M' 3) : bHd M' k Mb := by
  obtain ⟨h1, h2, h3, h4, h5, h6⟩ := h
  obtain ⟨o1, o2, o3, o4, o5, o6⟩ := ho k hk
  exact ⟨o1.trans h1, o2.trans h2, o3.trans h3, fun j hj => (o4 j hj).trans (h4 j hj), fun j hj => (o5 j hj).trans (h5 j hj), fun j hj => (o6 j hj).trans (h6 j hj)⟩
theorem rBx_m (h : rBx M I P t) (hE : mE M M') (ho : bOt M M' 3) : rBx M' I P t := by
  intro k hk
  obtain ⟨h1, h2⟩ := h k hk
  have e := (ho k (by omega)).1
  rw [e]
  refine ⟨h1, fun z => ?_⟩
  obtain ⟨Mb, a1, a2, a3⟩ := h2 z
  exact ⟨Mb, bHd_o (by omega) a1 ho, mE_tr (mE_sy hE) a2, a3⟩
theorem bOt_c {A B : zI} (h : ∀ a, 160 ≤ a → B a = A a) : bOt A B 3 := by
  intro c _
  rw [h 199 (by decide), h 200 (by decide), h 201 (by decide), h 202 (by decide), h 203 (by decide), h 204 (by decide)]
  exact ⟨rfl, rfl, rfl, fun _ _ => rfl, fun _ _ => rfl, fun _ _ => rfl⟩
/-- class cells that count -/
def kC (a : Nat) : Prop := a = 1 ∨ a = 2 ∨ (5 ≤ a ∧ a ≤ 16) ∨ (73 ≤ a ∧ a ≤ 85) ∨ (89 ≤ a ∧ a ≤ 95) ∨ (121 ≤ a ∧ a < 160)
/-- the class worked beside what counts -/
theorem Rl_cl (h : Rl M I L P t st b cd) (hf : ∀ a, kC a → I' a = I a) (h17 : I' 17 0 = I 17 0 ∧ I' 17 1 = I 17 1) (hg : gK M I') (hL : ∀ x, (x = 6 ∨ x = 12 ∨ x = 19 ∨ x = 174) → L' x = L x) (hP : zPk P') (hp : ∀ a k, (a = 0 ∨ a = 73 ∨ a = 121 ∨ a = 134 ∨ a = 147) → P' a k = P a k) : Rl M I' L' P' t st b cd := by
  obtain ⟨⟨p1, p2, p3⟩, h2, h3, h4, h5, ⟨g, h6⟩, h7, h8, h9, h10⟩ := h
  have ht := h3.1.1.1
  have hil := ht
  unfold il at hil
  unfold kC at hf
  refine ⟨⟨hP, by rw [hp 0 2 (by omega)]; exact p2, by rw [hp 0 3 (by omega)]; exact p3⟩, h2, rIl_c h3 (fun a a1 a2 => hf a (by omega)) (hL _ (by omega)) (hL _ (by omega)), tpR_c h4 (hf 1 (by omega)) (hf 2 (by omega)), by rw [h17.1, h17.2]; exact h5, ⟨g, rSc_c h6 (fun a ha => hf a (by omega)) (hp 73 1 (by omega))⟩, rBx_c ht h7 (hf 89 (by omega)) (hf t (by omega)) (fun a a1 a2 => hf a (by omega)) (fun k hk => hp _ 1 (by omega)), sgR_c h8 (fun a a1 a2 => hf a (by omega)), hg, fun i hi => by rw [hL 19 (by omega)]; exact h10.1 i hi, by rw [hf 10 (by omega)]; exact h10.2.1, by rw [hf 16 (by omega)]; exact h10.2.2⟩
/-- the model worked beside what counts -/
theorem Rl_md (h : Rl M I L P t st b cd) (hE : mE M M') (hS : mSe M M') (hG : mG M M') (ho : bOt M M' 3) (hp : MP M') (hT : M' 161 = M 161 ∧ M' 160 2 = M 160 2) (h17 : M' 160 4 = M 160 4 ∧ M' 160 5 = M 160 5) : Rl M' I L P t st b cd := by
  obtain ⟨h1, ⟨m1, m2, m3, m4, m5⟩, h3, h4, h5, ⟨g, h6⟩, h7, h8, h9, h10⟩ := h
  obtain ⟨c1, c2⟩ := mSe_MSc hE hS hp m1 m2
  refine ⟨h1, ⟨c1, c2, ?_, mG_H hG m4, by rw [hG.2.2]; exact m5⟩, rIl_m h3 hE m1 m2, ?_, by rw [h17.1, h17.2]; exact h5, ⟨g, rSc_m h6 hE hS m1⟩, rBx_m h7 hE ho, mE_sg hE hG h8, mE_gK hE m1.1.1 m2 m1.2.2.1 h9, h10⟩
  · unfold MTp vTp; rw [hT.1, hT.2]; exact m3
  · unfold vTp
    have e : vTt M' = vTt M := by funext k; unfold vTt; rw [hT.1]
    rw [e, hT.2]; exact h4
/-- the cells of the model alone -/
theorem Rl_same (h : Rl M I L P t st b cd) (hM : ∀ a, 160 ≤ a → M' a = M a) : Rl M' I L P t st b cd := by
  refine Rl_md h (mE_c hM) (mSe_c hM) (mG_c hM) (bOt_c hM) ?_ ⟨hM 161 (by decide), by rw [hM 160 (by decide)]⟩ ⟨by rw [hM 160 (by decide)], by rw [hM 160 (by decide)]⟩
  have mp := h.2.1.1.2.2.2.2.2.1
  have f : zFr (List.range 160) [] M M' := ⟨fun a p _ => hM a (Nat.le_of_not_lt (fun z => p (List.mem_range.mpr z))), fun k _ => by rw [hM 160 (by decide)]⟩
  have nr : ∀ x, 160 ≤ x → x ∉ List.range 160 := fun x hx z => by rw [List.mem_range] at z; omega
  exact MP_fr f (by decide) (nr 163 (by decide)) (nr 168 (by decide)) (by decide) (nr 182 (by decide)) (nr 181 (by decide)) (nr 180 (by decide)) (nr 186 (by decide)) (by decide) mp
/-- nothing that can be seen was changed by the model -/
theorem Rl_rSm (h : Rl M I L P t st b cd) (hr : rSm M M') : Rl M' I L P t st b cd := by
  obtain ⟨f, h1, h2, h3⟩ := hr
  refine Rl_md h ⟨zFr_wk f (fun a ha => meC_hi ((by decide : ∀ x ∈ rC, x ∈ [161, 162, 166, 175, 176, 177, 178, 179, 180, 181, 182, 183, 184, 185, 186, 187, 188, 189, 190, 191, 192, 193, 194, 195, 196, 197, 198, 199, 200, 201, 202, 203, 204]) a ha)) (by decide), fun k _ => by rw [f.1 166 (by decide) (by decide)], fun k _ => by rw [f.1 175 (by decide) (by decide), f.1 176 (by decide) (by decide)]; exact ⟨rfl, rfl⟩⟩ ⟨h1, fun j _ => by rw [f.1 181 (by decide) (by decide)], fun j _ => by rw [f.1 182 (by decide) (by decide)], f.2 38 (by decide), f.2 39 (by decide), f.2 40 (by decide)⟩ (mG_f f (by decide) (by decide) (by decide) (by decide) (by decide) (by decide) (by decide)) h3 h2 ⟨f.1 161 (by decide) (by decide), f.2 2 (by decide)⟩ ⟨f.2 4 (by decide), f.2 5 (by decide)⟩
end RL0
