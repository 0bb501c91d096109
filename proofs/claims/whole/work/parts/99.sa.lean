/-! ===== class and model: what is the same ===== -/
abbrev meC : List Nat := List.range 160 ++ [161, 162, 166, 175, 176, 177, 178, 179, 180, 181, 182, 183, 184, 185, 186, 187, 188, 189, 190, 191, 192, 193, 194, 195, 196, 197, 198, 199, 200, 201, 202, 203, 204]
abbrev meL : List Nat := [2, 3, 4, 5, 6, 7, 8, 9, 10, 29, 30, 31, 32, 33, 34, 38, 39, 40, 46, 48, 59, 60, 61]
theorem meC_n : ∀ a ∈ [163, 164, 165, 167, 168, 169, 170, 171, 172, 173, 174], a ∉ meC := by decide +kernel
theorem meC_lo {a : Nat} (h : a < 160) : a ∈ meC := List.mem_append.mpr (Or.inl (List.mem_range.mpr h))
theorem meC_hi {a : Nat} (h : a ∈ [161, 162, 166, 175, 176, 177, 178, 179, 180, 181, 182, 183, 184, 185, 186, 187, 188, 189, 190, 191, 192, 193, 194, 195, 196, 197, 198, 199, 200, 201, 202, 203, 204]) : a ∈ meC := List.mem_append.mpr (Or.inr h)
/-- the island and its sayings are the same -/
def mE (M M' : zI) : Prop := zFr meC meL M M' ∧ (∀ k, k ≠ 2 → M' 166 k = M 166 k) ∧ ∀ k, k < 1400 → M' 175 k = M 175 k ∧ M' 176 k = M 176 k
theorem mE_rf (M : zI) : mE M M := ⟨zFr_rf _ _ _, fun _ _ => rfl, fun _ _ => ⟨rfl, rfl⟩⟩
theorem mE_tr {A B C : zI} (h : mE A B) (h' : mE B C) : mE A C := ⟨zFr_tr h.1 h'.1, fun k hk => (h'.2.1 k hk).trans (h.2.1 k hk), fun k hk => ⟨(h'.2.2 k hk).1.trans (h.2.2 k hk).1, (h'.2.2 k hk).2.trans (h.2.2 k hk).2⟩⟩
theorem mE_sy {A B : zI} (h : mE A B) : mE B A := ⟨⟨fun a p q => (h.1.1 a p q).symm, fun k p => (h.1.2 k p).symm⟩, fun k hk => (h.2.1 k hk).symm, fun k hk => ⟨(h.2.2 k hk).1.symm, (h.2.2 k hk).2.symm⟩⟩
/-- only cells of the class -/
theorem mE_c {A B : zI} (h : ∀ a, 160 ≤ a → B a = A a) : mE A B :=
  ⟨⟨fun a p _ => h a (Nat.le_of_not_lt (fun z => p (meC_lo z))), fun k _ => by rw [h 160 (Nat.le_refl _)]⟩, fun k _ => by rw [h 166 (by decide)], fun k _ => by rw [h 175 (by decide), h 176 (by decide)]; exact ⟨rfl, rfl⟩⟩
section ME
variable {M M' : zI}
theorem mE_B (h : mE M M') : vB M' = vB M := vB_fr h.1 (by decide)
theorem mE_np (h : mE M M') : vNp M' = vNp M := vNp_fr h.1 (by decide) (meC_n 163 (by decide))
theorem mE_n (h : mE M M') : vN M' = vN M := vN_fr h.1 (by decide) (meC_n 163 (by decide))
theorem mE_tw (h : mE M M') : vTw M' = vTw M := vTw_fr h.1 (by decide) (meC_n 167 (by decide))
theorem mE_ow (h : mE M M') : vOwn M' = vOwn M := vOwn_fr h.1 (by decide) (meC_n 171 (by decide))
theorem mE_st (h : mE M M') : vSty M' = vSty M := vSty_fr h.1 (by decide) (meC_n 173 (by decide))
theorem mE_se (h : mE M M') : vSee M' = vSee M := by
  funext p
  unfold vSee
  rw [mE_B h, mE_n h, h.1.1 168 (meC_n 168 (by decide)) (by decide)]
theorem mE_ns (h : mE M M') : vNs M' = vNs M := vNs_fr h.1 (by decide) (meC_n 165 (by decide))
theorem mE_MB (h : mE M M') (hB : MB M) : MB M' := MB_fr h.1 (by decide) (meC_n 163 (by decide)) hB
theorem mE_C (h : mE M M') (hB : MB M) (hb : MCb M) (hm : MC M) : MC M' ∧ MCb M' ∧ ∀ i, i < vNs M → vSy M' i = vSy M i :=
  MC_lo h.1 (by decide) (meC_n 163 (by decide)) (meC_n 165 (by decide)) (meC_n 169 (by decide)) (meC_n 170 (by decide)) h.2.2 hB hb hm
theorem mE_MT (h : mE M M') (hT : MT M) : MT M' := by
  unfold MT
  rw [mE_tw h, mE_n h, mE_B h, h.1.1 167 (meC_n 167 (by decide)) (by decide)]
  exact hT
/-- the sights are the same -/
def mG (M M' : zI) : Prop := (M' 189 = M 189 ∧ M' 190 = M 190 ∧ M' 191 = M 191 ∧ M' 192 = M 192 ∧ M' 197 = M 197) ∧ M' 160 59 = M 160 59 ∧ M' 160 60 = M 160 60
theorem mG_c {A B : zI} (h : ∀ a, 160 ≤ a → B a = A a) : mG A B := ⟨⟨h _ (by decide), h _ (by decide), h _ (by decide), h _ (by decide), h _ (by decide)⟩, by rw [h 160 (by decide)], by rw [h 160 (by decide)]⟩
theorem mG_f {cs sl : List Nat} (f : zFr cs sl M M') (h1 : 189 ∉ cs) (h2 : 190 ∉ cs) (h3 : 191 ∉ cs) (h4 : 192 ∉ cs) (h5 : 197 ∉ cs) (h6 : 59 ∉ sl) (h7 : 60 ∉ sl) : mG M M' := ⟨⟨f.1 _ h1 (by decide), f.1 _ h2 (by decide), f.1 _ h3 (by decide), f.1 _ h4 (by decide), f.1 _ h5 (by decide)⟩, f.2 _ h6, f.2 _ h7⟩
theorem mG_H (h : mG M M') (hH : MH M) : MH M' := by
  unfold MH vNg
  rw [h.2.1, h.1.1, h.1.2.2.2.2]
  exact hH
/-- what is known of the guesses -/
theorem mE_gK {I : zI} (h : mE M M') (hB : MB M) (hb : MCb M) (hm : MC M) (hg : gK M I) : gK M' I := by
  obtain ⟨-, -, hY⟩ := mE_C h hB hb hm
  have e1 := mE_n h
  have e2 := mE_np h
  have e3 := mE_se h
  have el : fLk M' = fLk M := by funext p a b; unfold fLk; rw [e3]
  have eg : fGe M' = fGe M := by funext inn E ga w; unfold fGe; rw [e1, e2, el, mE_st h, mE_ow h]
  have en : ∀ inn n, fNN M' inn n = fNN M inn n := by
    intro inn n
    induction n with
    | zero => rfl
    | succ n ih => unfold fNN fE1 fG1; rw [ih, eg]
  have ej : fGj M' = fGj M := by funext inn j w; unfold fGj; rw [eg, en]
  have er : fRw M' = fRw M := by funext cs; unfold fRw; rw [e1, e2, e3]
  have eb : ∀ inn w p n, nbF M' inn w p n = nbF M inn w p n := by
    intro inn w p n
    induction n with
    | zero => rfl
    | succ n ih => unfold nbF; rw [ih, ej]
  have ei : ∀ i, iS M' i = iS M i := by
    intro i
    unfold iS
    rw [mE_ns h]
    by_cases c : i < vNs M
    · rw [if_pos c, if_pos c]
      funext w
      show (¬ fRw M' (vSy M' i) w = 0) = (¬ fRw M (vSy M i) w = 0)
      rw [er, hY i c]
    · rw [if_neg c, if_neg c]; rfl
  intro z1 z2 i hi w hw
  rw [e2] at z2
  rw [mE_ns h] at hi
  rw [e1] at hw
  have := hg z1 z2 i hi w hw
  rw [ei i, e2]
  refine ⟨fun y => ?_, this.2⟩
  rw [this.1 y]
  exact congrArg nI (congrArg (fun f => wd f (vNp M)) (funext fun p => (eb (iS M i) w p 12).symm))
theorem mE_sg {I : zI} (h : mE M M') (hg : mG M M') (hs : sgR M I) : sgR M' I := by
  unfold sgR vNg
  rw [mE_np h, hg.2.1, hg.2.2, hg.1.1, hg.1.2.1, hg.1.2.2.1, hg.1.2.2.2.1, hg.1.2.2.2.2]
  exact hs
/-- the scene is the same -/
def mSe (M M' : zI) : Prop := (∀ w, w < 256 → M' 180 w = M 180 w) ∧ (∀ j, j < 2048 → M' 181 j = M 181 j) ∧ (∀ j, j < 8 → M' 182 j = M 182 j) ∧ M' 160 38 = M 160 38 ∧ M' 160 39 = M 160 39 ∧ M' 160 40 = M 160 40
theorem mSe_rf (M : zI) : mSe M M := ⟨fun _ _ => rfl, fun _ _ => rfl, fun _ _ => rfl, rfl, rfl, rfl⟩
theorem mSe_tr {A B C : zI} (h : mSe A B) (h' : mSe B C) : mSe A C := ⟨fun w hw => (h'.1 w hw).trans (h.1 w hw), fun w hw => (h'.2.1 w hw).trans (h.2.1 w hw), fun w hw => (h'.2.2.1 w hw).trans (h.2.2.1 w hw), h'.2.2.2.1.trans h.2.2.2.1, h'.2.2.2.2.1.trans h.2.2.2.2.1, h'.2.2.2.2.2.trans h.2.2.2.2.2⟩
theorem mSe_c {A B : zI} (h : ∀ a, 160 ≤ a → B a = A a) : mSe A B := by
  unfold mSe
  rw [h 180 (by decide), h 181 (by decide), h 182 (by decide), h 160 (by decide)]
  exact mSe_rf A
theorem mSe_po (h : mSe M M') {w : Nat} (hw : w < 256) : vPoss M' w ↔ vPoss M w := by unfold vPoss; rw [h.1 w hw]
theorem mSe_gn (h : mSe M M') : vGn M' = vGn M := by unfold vGn; rw [h.2.2.2.2.2]
theorem mSe_lk (h : mE M M') (hs : mSe M M') (hW : MW M) {p a b : Nat} (ha : a < 256) (hb : b < 256) : vLike M' p a b ↔ vLike M p a b := by
  have e : vNw M' = vNw M := by unfold vNw; rw [hs.2.2.2.1]
  have w8 := hW.1
  unfold vLike
  rw [mE_se h, e]
  have : ∀ k, k < vNw M → (vWt M' k = vWt M k ∧ M' 181 (256 * k + a) = M 181 (256 * k + a) ∧ M' 181 (256 * k + b) = M 181 (256 * k + b)) := fun k hk => ⟨by unfold vWt; rw [hs.2.2.1 k (by omega)], hs.2.1 _ (by omega), hs.2.1 _ (by omega)⟩
  constructor
  · rintro ⟨x, y⟩
    refine ⟨x, fun k hk z => ?_⟩
    obtain ⟨q1, q2, q3⟩ := this k hk
    have := y k hk (by rw [q1]; exact z)
    rwa [q2, q3] at this
  · rintro ⟨x, y⟩
    refine ⟨x, fun k hk z => ?_⟩
    obtain ⟨q1, q2, q3⟩ := this k hk
    rw [q2, q3]
    exact y k hk (by rw [← q1]; exact z)
theorem mSe_MSc (h : mE M M') (hs : mSe M M') (hp : MP M') (hS : MSc M) (hb : MCb M) : MSc M' ∧ MCb M' := by
  obtain ⟨hE, hT, hC, hG, hZ, hM, hpt⟩ := hS
  obtain ⟨c1, c2, -⟩ := mE_C h hE.1 hb hC
  have e : vNw M' = vNw M := by unfold vNw; rw [hs.2.2.2.1]
  have w8 := hE.2.2.1
  have hB' := mE_MB h hE.1
  have tw : vTw M < 256 := by have := vN_le hE.1; have := hT.1; omega
  refine ⟨⟨⟨hB', ?_, ?_⟩, mE_MT h hT, c1, ?_, ⟨fun w hw => by rw [hs.1 w hw]; exact hZ.1 w hw, fun j hj => by rw [hs.2.1 j hj]; exact hZ.2 j hj⟩, hp, ?_⟩, c2⟩
  · intro p hp'
    rw [mE_np h] at hp'
    rw [mE_B h, h.1.1 168 (meC_n 168 (by decide)) (by decide)]
    exact hE.2.1 p hp'
  · refine ⟨by rw [e]; exact w8, by rw [e, hs.2.2.2.1]; exact hE.2.2.2.1, fun k hk => ?_⟩
    rw [e] at hk
    have := hE.2.2.2.2 k hk
    unfold vWt
    rw [hs.2.2.1 k (by omega)]
    exact this
  · unfold MG
    rw [mSe_gn hs, hs.2.2.2.2.2]
    exact hG
  · rw [mE_tw h, mSe_po hs tw]; exact hpt
end ME
