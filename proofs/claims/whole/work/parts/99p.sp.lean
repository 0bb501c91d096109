/-! ===== the bank that is told is the same ===== -/
/-- the told bank is the same; the other may be any -/
def bE (M M' : zI) : Prop := M' 160 28 = M 160 28 ∧ (M' 163 (vB M) = M 163 (vB M) ∧ M' 165 (vB M) = M 165 (vB M) ∧ M' 166 (vB M) = M 166 (vB M) ∧ M' 167 (vB M) = M 167 (vB M) ∧ M' 171 (vB M) = M 171 (vB M)) ∧ (∀ k, k < 8 → M' 168 (8 * vB M + k) = M 168 (8 * vB M + k) ∧ M' 173 (8 * vB M + k) = M 173 (8 * vB M + k)) ∧ (∀ i, i < 6 → M' 169 (6 * vB M + i) = M 169 (6 * vB M + i) ∧ M' 170 (6 * vB M + i) = M 170 (6 * vB M + i)) ∧ ∀ k, 700 * vB M ≤ k → k < 700 * vB M + 700 → M' 175 k = M 175 k ∧ M' 176 k = M 176 k
section BE
variable {M M' : zI}
theorem bE_B (h : bE M M') : vB M' = vB M := by unfold vB; rw [h.1]
theorem bE_np (h : bE M M') : vNp M' = vNp M := by
  show (M' 163 (vB M')).toNatClampNeg = (M 163 (vB M)).toNatClampNeg
  rw [bE_B h, h.2.1.1]
theorem bE_n (h : bE M M') : vN M' = vN M := by unfold vN; rw [bE_np h]
theorem bE_tw (h : bE M M') : vTw M' = vTw M := by
  show (M' 167 (vB M')).toNatClampNeg = (M 167 (vB M)).toNatClampNeg
  rw [bE_B h, h.2.1.2.2.2.1]
theorem bE_ow (h : bE M M') : vOwn M' = vOwn M := by unfold vOwn; rw [bE_B h, h.2.1.2.2.2.2]
theorem bE_st (h : bE M M') {p : Nat} (hp : p < 8) : vSty M' p ↔ vSty M p := by unfold vSty; rw [bE_B h, (h.2.2.1 p hp).2]
theorem bE_se (h : bE M M') {p : Nat} (hp : p < 8) : vSee M' p = vSee M p := by unfold vSee; rw [bE_B h, bE_n h, (h.2.2.1 p hp).1]
theorem bE_ns (h : bE M M') : vNs M' = vNs M := by
  show (M' 165 (vB M')).toNatClampNeg = (M 165 (vB M)).toNatClampNeg
  rw [bE_B h, h.2.1.2.1]
theorem bE_MB (h : bE M M') (hB : MB M) : MB M' := by
  unfold MB
  rw [bE_np h, bE_B h, h.1, h.2.1.1]
  exact hB
theorem bE_MT (h : bE M M') (hT : MT M) : MT M' := by
  unfold MT
  rw [bE_tw h, bE_n h, bE_B h, h.2.1.2.2.2.1]
  exact hT
theorem bE_MS (h : bE M M') (hB : MB M) (hS : MS M) : MS M' := by
  intro p hp
  rw [bE_np h] at hp
  rw [bE_B h, (h.2.2.1 p (by have := hB.2.1; omega)).1]
  exact hS p hp
theorem bE_sf (h : bE M M') {i : Nat} (hi : i < 6) : vSf M' i = vSf M i := by unfold vSf; rw [bE_B h, (h.2.2.2.1 i hi).1]
theorem bE_sl (h : bE M M') {i : Nat} (hi : i < 6) : vSl M' i = vSl M i := by unfold vSl; rw [bE_sf h hi, bE_B h, (h.2.2.2.1 i hi).2]
theorem bE_sy (h : bE M M') (hC : MC M) (hb : MCb M) {i : Nat} (hi : i < vNs M) : vSy M' i = vSy M i := by
  have n6 := hC.1
  have hb' := hb i hi
  unfold vSy
  rw [bE_sf h (by omega), bE_sl h (by omega)]
  exact vCd_k _ _ (fun k h1 h2 => h.2.2.2.2 k (by omega) (by omega))
theorem bE_MC (h : bE M M') (hC : MC M) (hb : MCb M) : MC M' ∧ MCb M' := by
  have n6 := hC.1
  refine ⟨⟨by rw [bE_ns h]; exact hC.1, by rw [bE_ns h, bE_B h, h.2.1.2.1]; exact hC.2.1, fun i hi => ?_⟩, fun i hi => ?_⟩
  · rw [bE_ns h] at hi
    rw [bE_sy h hC hb hi, bE_sf h (by omega), bE_sl h (by omega), bE_np h, bE_B h, (h.2.2.2.1 i (by omega)).1, (h.2.2.2.1 i (by omega)).2]
    exact hC.2.2 i hi
  · rw [bE_ns h] at hi
    rw [bE_sf h (by omega), bE_sl h (by omega), bE_B h]
    exact hb i hi
theorem bE_lk (h : bE M M') (hs : mSe M M') (hW : MW M) {p a c : Nat} (hp : p < 8) (ha : a < 256) (hc : c < 256) : vLike M' p a c ↔ vLike M p a c := by
  have e : vNw M' = vNw M := by unfold vNw; rw [hs.2.2.2.1]
  have w8 := hW.1
  unfold vLike
  rw [bE_se h hp, e]
  have : ∀ k, k < vNw M → (vWt M' k = vWt M k ∧ M' 181 (256 * k + a) = M 181 (256 * k + a) ∧ M' 181 (256 * k + c) = M 181 (256 * k + c)) := fun k hk => ⟨by unfold vWt; rw [hs.2.2.1 k (by omega)], hs.2.1 _ (by omega), hs.2.1 _ (by omega)⟩
  constructor
  · rintro ⟨x, y⟩
    refine ⟨x, fun k hk z => ?_⟩
    obtain ⟨q1, q2, q3⟩ := this k hk
    have := y k hk (by rw [q1]; exact z)
    rwa [q2, q3] at this
  · rintro ⟨x, y⟩
    refine ⟨x, fun k hk z => ?_⟩
    obtain ⟨q1, q2, q3⟩ := this k hk
    rw [q2, q3]
    exact y k hk (by rw [← q1]; exact z)
theorem bE_rIl {I : zI} {L L' : zL} {t st : Nat} {b : Nat → Nat} {cd : Nat → Cd} (h : bE M M') (hM : MSc M) (hb : MCb M) (hr : rIl M I L t st b cd) (eL : L' (t + 1) = L (t + 1)) (e174 : ∀ k, k < 8 → L' 174 (8 * vB M + k) = L 174 (8 * vB M + k)) : rIl M' I L' t st b cd := by
  obtain ⟨⟨h1, h2, h3, h4, h5, h6, h7⟩, h8, h9⟩ := hr
  have n8 := hM.1.1.2.1
  refine ⟨⟨by rw [bE_np h]; exact h1, by rw [bE_tw h]; exact h2, by rw [bE_ow h]; exact h3, fun p hp => ?_, fun p hp => ?_, by rw [bE_np h, bE_ns h]; exact h6, fun i hi => ?_⟩, ?_, fun k hk => ?_⟩
  · rw [bE_np h] at hp
    rw [bE_st h (by omega)]; exact h4 p hp
  · rw [bE_np h] at hp
    rw [bE_se h (by omega)]; exact h5 p hp
  · rw [bE_ns h] at hi
    rw [bE_sy h hM.2.2.1 hb hi]; exact h7 i hi
  · rw [bE_B h, h.2.1.2.2.1]; exact h8
  · rw [bE_np h] at hk
    rw [bE_B h, eL, e174 k (by omega)]; exact h9 k hk
theorem bE_rSc {P : zP} {s l v t : Nat} {I : zI} {g : Nat → Nat → Nat} (h : bE M M') (hS : mSe M M') (hM : MSc M) (hr : rSc P s l v t M I g) : rSc P s l v t M' I g := by
  obtain ⟨⟨h1, h2, h3, h4⟩, h5, h6, h7⟩ := hr
  have hN := vN_le hM.1.1
  have n8 := hM.1.1.2.1
  have eP : lP (vPoss M') (vN M) = lP (vPoss M) (vN M) := lP_c (fun w hw => mSe_po hS (by omega))
  refine ⟨⟨by rw [bE_np h, bE_n h, eP]; exact h1, ?_, by rw [mSe_gn hS]; exact h3, ?_⟩, by rw [hS.2.2.2.2.1]; exact h5, by rw [hS.2.2.2.1]; exact h6, by rw [hS.2.2.2.2.1]; exact h7⟩
  · intro p hp a b ha hb pa pb
    rw [bE_np h] at hp
    rw [bE_n h] at ha hb
    rw [bE_lk h hS hM.1.2.2 (by omega) (by omega) (by omega)]
    exact h2 p hp a b ha hb ((mSe_po hS (by omega)).mp pa) ((mSe_po hS (by omega)).mp pb)
  · rw [bE_tw h]
    exact (mSe_po hS (by have := hM.2.1.1; omega)).mpr h4
theorem bE_MSc (h : bE M M') (hs : mSe M M') (hp : MP M') (hS : MSc M) (hb : MCb M) : MSc M' ∧ MCb M' := by
  obtain ⟨hE, hT, hC, hG, hZ, hM, hpt⟩ := hS
  obtain ⟨c1, c2⟩ := bE_MC h hC hb
  have e : vNw M' = vNw M := by unfold vNw; rw [hs.2.2.2.1]
  have w8 := hE.2.2.1
  have tw : vTw M < 256 := by have := vN_le hE.1; have := hT.1; omega
  refine ⟨⟨⟨bE_MB h hE.1, bE_MS h hE.1 hE.2.1, ?_⟩, bE_MT h hT, c1, ?_, ⟨fun w hw => by rw [hs.1 w hw]; exact hZ.1 w hw, fun j hj => by rw [hs.2.1 j hj]; exact hZ.2 j hj⟩, hp, ?_⟩, c2⟩
  · refine ⟨by rw [e]; exact w8, by rw [e, hs.2.2.2.1]; exact hE.2.2.2.1, fun k hk => ?_⟩
    rw [e] at hk
    have := hE.2.2.2.2 k hk
    unfold vWt
    rw [hs.2.2.1 k (by omega)]
    exact this
  · unfold MG
    rw [mSe_gn hs, hs.2.2.2.2.2]
    exact hG
  · rw [bE_tw h, mSe_po hs tw]; exact hpt
end BE
