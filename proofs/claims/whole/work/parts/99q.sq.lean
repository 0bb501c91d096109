/-! ===== the told bank is the same: guesses ===== -/
section BG
variable {M M' : zI}
theorem bE_ge (h : bE M M') (hB : MB M) {inn inn' : Nat → Prop} {E E' : Nat → Nat → Prop} {ga ga' : Nat → Nat} {w : Nat} (hi : inn' w ↔ inn w) (hE : ∀ v, v < vN M → (E' v w ↔ E v w)) (hg : ga' w = ga w) : fGe M' inn' E' ga' w = fGe M inn E ga w := by
  have n8 := hB.2.1
  unfold fGe
  rw [bE_np h, bE_n h, bE_ow h, hg]
  by_cases c : inn w
  · rw [if_pos c, if_pos (hi.mpr c)]
    refine bset_c (fun p hp => sGo_ag (fun v hv => hE v hv) (bE_st h (by omega)) Iff.rfl (fun v hv _ => ?_))
    unfold fLk
    rw [bE_se h (by omega)]
  · rw [if_neg c, if_neg (fun z => c (hi.mp z))]
theorem bE_nn (h : bE M M') (hB : MB M) {inn inn' : Nat → Prop} (hi : ∀ w, w < vN M → (inn' w ↔ inn w)) : ∀ n, (∀ v w, v < vN M → w < vN M → ((fNN M' inn' n).1 v w ↔ (fNN M inn n).1 v w)) ∧ ∀ w, w < vN M → (fNN M' inn' n).2 w = (fNN M inn n).2 w
  | 0 => ⟨fun v w hv hw => hi v hv, fun _ _ => rfl⟩
  | n + 1 => by
    obtain ⟨h1, h2⟩ := bE_nn h hB hi n
    have ge : ∀ w, w < vN M → fGe M' inn' (fNN M' inn' n).1 (fNN M' inn' n).2 w = fGe M inn (fNN M inn n).1 (fNN M inn n).2 w := fun w hw => bE_ge h hB (hi w hw) (fun v hv => h1 v w hv hw) (h2 w hw)
    refine ⟨fun v w hv hw => ?_, fun w hw => ?_⟩
    · show fE1 M' inn' _ _ v w ↔ fE1 M inn _ _ v w
      unfold fE1
      rw [ge v hv, ge w hw, h1 v w hv hw]
    · show fG1 M' inn' _ _ w = fG1 M inn _ _ w
      unfold fG1
      rw [ge w hw, h2 w hw]
theorem bE_gj (h : bE M M') (hB : MB M) {inn inn' : Nat → Prop} (hi : ∀ w, w < vN M → (inn' w ↔ inn w)) (j : Nat) {w : Nat} (hw : w < vN M) : fGj M' inn' j w = fGj M inn j w := by
  obtain ⟨h1, h2⟩ := bE_nn h hB hi j
  exact bE_ge h hB (hi w hw) (fun v hv => h1 v w hv hw) (h2 w hw)
theorem bE_nb (h : bE M M') (hB : MB M) {inn inn' : Nat → Prop} (hi : ∀ w, w < vN M → (inn' w ↔ inn w)) {w : Nat} (hw : w < vN M) (p : Nat) : ∀ n, nbF M' inn' w p n = nbF M inn w p n
  | 0 => rfl
  | n + 1 => by
    unfold nbF
    rw [bE_nb h hB hi hw p n, bE_gj h hB hi n hw]
theorem bE_iS (h : bE M M') (hB : MB M) (hC : MC M) (hb : MCb M) (i : Nat) : ∀ w, w < vN M → (iS M' i w ↔ iS M i w) := by
  intro w hw
  have n8 := hB.2.1
  unfold iS
  rw [bE_ns h]
  by_cases c : i < vNs M
  · rw [if_pos c, if_pos c]
    show (¬ fRw M' (vSy M' i) w = 0) ↔ (¬ fRw M (vSy M i) w = 0)
    rw [bE_sy h hC hb c]
    have gd := (hC.2.2 i c).2.2.2
    have : fRw M' (vSy M i) w = fRw M (vSy M i) w := by
      unfold fRw
      rw [bE_np h, bE_n h]
      exact eRun_ag (T := fun _ => True) (fun _ _ _ => trivial) (fun _ _ => Iff.rfl) (fun p a b hp _ _ _ _ => by rw [bE_se h (by omega)]) n8 _ 0 _ _ gd.1 (fun j _ hj => absurd hj (Nat.not_lt_zero j)) 0 w (by rw [gd.2]; decide) hw trivial
    rw [this]
  · rw [if_neg c, if_neg c]; exact Iff.rfl
theorem bE_gK {I : zI} (h : bE M M') (hB : MB M) (hC : MC M) (hb : MCb M) (hg : gK M I) : gK M' I := by
  intro z1 z2 i hi w hw
  rw [bE_np h] at z2
  rw [bE_ns h] at hi
  rw [bE_n h] at hw
  have := hg z1 z2 i hi w hw
  have hiS := bE_iS h hB hC hb i
  rw [hiS w hw, bE_np h]
  refine ⟨fun y => ?_, this.2⟩
  rw [this.1 y]
  exact congrArg nI (congrArg (fun f => wd f (vNp M)) (funext fun p => (bE_nb h hB hiS hw p 12).symm))
/-- the parts that are laid -/
theorem bE_MP (h : bE M M') (hs : mSe M M') (hE : ME M) (e46 : M' 160 46 = M 160 46) (e186 : M' 186 = M 186) (hp : MP M) : MP M' := by
  have hN := vN_le hE.1
  have n8 := hE.1.2.1
  rcases hp with z | ⟨z1, z2⟩
  · exact Or.inl (by rw [e46]; exact z)
  · right
    refine ⟨?_, ?_⟩
    · rw [bE_np h, bE_n h, e186]
      have po : ∀ w, w < vN M → (vPoss M w ↔ vPoss M' w) := fun w hw => (mSe_po hs (by omega)).symm
      have lk : ∀ p a c, p < vNp M → a < vN M → c < vN M → (vLike M p a c ↔ vLike M' p a c) := fun p a c hp ha hc => (bE_lk h hs hE.2.2 (by omega) (by omega) (by omega)).symm
      refine ⟨fun v hv => ?_, fun v u hv hu hq pu ad => ?_⟩
      · rcases z1.1 v hv with y | ⟨r, y1, y2, y3, y4, y5, y6⟩
        · exact Or.inl y
        · exact Or.inr ⟨r, y1, y2, (po v hv).mp y3, (po r y1).mp y4, (sCo_iff po (fun p a c hp ha hc _ _ => lk p a c hp ha hc) y1 y4).mp y5, y6⟩
      · refine z1.2 v u hv hu hq ((po u hu).mpr pu) ?_
        obtain ⟨p, hp, hl⟩ := ad
        exact ⟨p, hp, (lk p v u hp hv hu).mpr hl⟩
    · rw [bE_n h, e186]
      exact fun a ha pa => z2 a ha ((mSe_po hs (by omega)).mp pa)
end BG
