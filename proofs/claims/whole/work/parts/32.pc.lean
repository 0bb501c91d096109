/-! ===== the token that stands here ===== -/
theorem tA_le {T : Nat → Int32} {n e : Nat} (h : e ≤ n) : e ≤ tA T n e ∧ tA T n e ≤ n := ⟨rn_ge _ _ _, rn_le _ h⟩
theorem tE_le {T : Nat → Int32} {n e : Nat} (h : e ≤ n) : tA T n e ≤ tE T n e ∧ tE T n e ≤ n := by
  obtain ⟨a1, a2⟩ := tA_le (T := T) h
  by_cases h0 : n ≤ tA T n e
  · rw [(tE_0 h0).1]; omega
  · by_cases h1 : isLt (T (tA T n e))
    · rw [(tE_l h0 h1).1]; exact ⟨rn_ge _ _ _, rn_le _ a2⟩
    · by_cases h2 : isDg (T (tA T n e))
      · rw [(tE_d h0 h1 h2).1]; exact ⟨rn_ge _ _ _, rn_le _ a2⟩
      · rw [(tE_s h0 h1 h2).1]; omega
/-- what kinds there are; what a word's kind says of its letters, a sign's of its place -/
theorem tK_all {T : Nat → Int32} {n e : Nat} : (∃ x, x ∈ sgL ∧ tK T n e = x.toNatClampNeg ∧ tA T n e < n ∧ T (tA T n e) = x) ∨ (tK T n e = wIx (tV T n e)) ∨ tK T n e = 274 ∨ tK T n e = 275 ∨ tK T n e = 276 := by
  by_cases h0 : n ≤ tA T n e
  · exact Or.inr (Or.inr (Or.inr (Or.inl (tE_0 h0).2)))
  · by_cases h1 : isLt (T (tA T n e))
    · by_cases q : 8 < tE T n e - tA T n e
      · exact Or.inr (Or.inr (Or.inr (Or.inr ((tE_l h0 h1).2.1 q))))
      · exact Or.inr (Or.inl ((tE_l h0 h1).2.2 q))
    · by_cases h2 : isDg (T (tA T n e))
      · by_cases q : (4 < tE T n e - tA T n e ∨ (tE T n e < n ∧ isLt (T (tE T n e))))
        · exact Or.inr (Or.inr (Or.inr (Or.inr ((tE_d h0 h1 h2).2.1 q))))
        · exact Or.inr (Or.inr (Or.inl ((tE_d h0 h1 h2).2.2 q)))
      · by_cases q : T (tA T n e) ∈ sgL
        · exact Or.inl ⟨_, q, (tE_s h0 h1 h2).2.1 q, by omega, rfl⟩
        · exact Or.inr (Or.inr (Or.inr (Or.inr ((tE_s h0 h1 h2).2.2 q))))
theorem wIx_rg (v : Int64) : 256 ≤ wIx v ∧ wIx v ≤ 273 := by
  by_cases h : v ∈ wdL
  · have := wIx_t h; omega
  · rw [wIx_f h]; omega
theorem wIx_ix {i : Nat} (hi : i < 17) {v : Int64} : wIx v = 256 + i ↔ v = wdL[i]'hi := by
  constructor
  · intro h
    by_cases hv : v ∈ wdL
    · unfold wIx at h
      rw [if_pos hv] at h
      have : wdL.idxOf v = i := by omega
      have hl : wdL.idxOf v < wdL.length := List.idxOf_lt_length_of_mem hv
      have e := List.getElem_idxOf hl
      rw [← e]
      congr 1
    · rw [wIx_f hv] at h; omega
  · intro h
    subst h
    revert hi
    revert i
    decide
section PS
variable {T : Nat → Int32} {n e : Nat} {I I' : zI} {L L' : zL}
/-- the token at e is read, of the text T -/
def pS (T : Nat → Int32) (n : Nat) (I : zI) (L : zL) (e : Nat) : Prop := (vTx I = T ∧ vSz I = n ∧ MX I ∧ e ≤ n) ∧ I 160 6 = nI (tA T n e) ∧ I 160 7 = nI (tE T n e) ∧ I 160 8 = tCd (tK T n e) ∧ (256 ≤ tK T n e → tK T n e ≤ 273 → L 160 10 = tV T n e) ∧ (tK T n e = 274 → I 160 9 = tN T n e)
theorem pS_fr {cs sl : List Nat} (h : pS T n I L e) (hf : zFr cs sl I I') (h1 : 162 ∉ cs) (h2 : 3 ∉ sl) (h3 : 6 ∉ sl) (h4 : 7 ∉ sl) (h5 : 8 ∉ sl) (h6 : 9 ∉ sl) (hL : L' 160 10 = L 160 10) : pS T n I' L' e := by
  unfold pS MX vTx vSz
  rw [hf.2 3 h2, hf.2 6 h3, hf.2 7 h4, hf.2 8 h5, hf.2 9 h6, hf.1 162 h1 (by decide), hL]
  exact h
theorem pS_go {d : Nat} {P : zP} (hP : zPk P) (h : pS T n I L e) (hd : 1 ≤ d) {K : zI → zL → zP → Prop} (kk : ∀ I' L', zFr [] gS I I' → zLn L L' → pS T n I' L' (tE T n e) → K I' L' P) : zMv zm_X12_goOn d [.ref 160] I L P K := by
  obtain ⟨⟨rfl, rfl, hX, he⟩, h6, h7, h8, h9, h10⟩ := h
  obtain ⟨a1, a2⟩ := tE_le (T := vTx I) he
  refine sp_X12_goOn hP hX (zFr_rf _ _ I) a2 h7 hd (fun I' L' f1 f2 hk => kk I' L' f1 f2 ⟨⟨?_, ?_, ?_, a2⟩, hk⟩)
  · unfold vTx; rw [f1.1 162 (by decide) (by decide)]
  · unfold vSz; rw [f1.2 3 (by decide)]
  · unfold MX vSz; rw [f1.2 3 (by decide)]; exact hX
theorem pS_w (h : pS T n I L e) {i : Nat} (hi : i < 17) {x : Int64} (hx : x = wdL[i]'hi) : (I 160 8 = 3 ∧ L 160 10 = x) ↔ tK T n e = 256 + i := by
  obtain ⟨-, -, -, h8, h9, -⟩ := h
  subst hx
  rw [h8]
  rcases tK_all (T := T) (n := n) (e := e) with ⟨x, hx, e1, -, -⟩ | e1 | e1 | e1 | e1
  · obtain ⟨g1, g2, -⟩ := sg_cd hx
    rw [e1, g1]
    exact ⟨fun z => absurd z.1 (by decide), fun z => by omega⟩
  · obtain ⟨w1, w2⟩ := wIx_rg (tV T n e)
    rw [e1] at h9
    rw [e1, h9 w1 w2, wIx_ix hi]
    refine ⟨fun z => z.2, fun z => ⟨?_, z⟩⟩
    exact (wIx_t (by rw [z]; exact List.getElem_mem _)).1
  · rw [e1]; exact ⟨fun z => absurd z.1 (by decide), fun z => by omega⟩
  · rw [e1]; exact ⟨fun z => absurd z.1 (by decide), fun z => by omega⟩
  · rw [e1]; exact ⟨fun z => absurd z.1 (by decide), fun z => by omega⟩
theorem pS_g (h : pS T n I L e) : (I 160 8 = 5 → pSg I (I 160 6)) ∧ ∀ c, nI c ∈ sgL → c < 64 → ((I 160 8 = 5 ∧ sSg I (I 160 6) = nI c) ↔ tK T n e = c) := by
  obtain ⟨⟨rfl, rfl, hX, he⟩, h6, h7, h8, h9, -⟩ := h
  obtain ⟨a1, a2⟩ := tA_le (T := vTx I) he
  have x1 := hX.1
  rw [h6, h8]
  obtain ⟨s1, s2, s3⟩ := sg_in (zFr_rf [] [] I) (by decide) hX (show tA (vTx I) (vSz I) e < 2 ^ 31 by omega)
  refine ⟨fun _ => s1, fun c hc hc2 => ?_⟩
  rcases tK_all (T := vTx I) (n := vSz I) (e := e) with ⟨x, hx, e1, e2, e3⟩ | e1 | e1 | e1 | e1
  · obtain ⟨g1, g2, g3⟩ := sg_cd hx
    rw [e1, g1, s2 e2, e3]
    constructor
    · rintro ⟨-, z⟩
      rw [z, nI_cl (by omega)]
    · intro z
      exact ⟨rfl, by rw [← z]; exact g3⟩
  · obtain ⟨w1, w2⟩ := wIx_rg (tV (vTx I) (vSz I) e)
    rw [e1]
    refine ⟨fun z => ?_, fun z => by omega⟩
    by_cases hv : tV (vTx I) (vSz I) e ∈ wdL
    · rw [(wIx_t hv).1] at z; exact absurd z.1 (by decide)
    · rw [wIx_f hv] at z; exact absurd z.1 (by decide)
  · rw [e1]; exact ⟨fun z => absurd z.1 (by decide), fun z => by omega⟩
  · rw [e1]; exact ⟨fun z => absurd z.1 (by decide), fun z => by omega⟩
  · rw [e1]; exact ⟨fun z => absurd z.1 (by decide), fun z => by omega⟩
theorem pS_p (h : pS T n I L e) : pSg I (I 160 6) := by
  obtain ⟨⟨rfl, rfl, hX, he⟩, h6, -⟩ := h
  obtain ⟨a1, a2⟩ := tA_le (T := vTx I) he
  have x1 := hX.1
  rw [h6]
  exact (sg_in (zFr_rf [] [] I) (by decide) hX (show tA (vTx I) (vSz I) e < 2 ^ 31 by omega)).1
/-- of no word and no sign: end, none, a name, a number -/
theorem pS_k (h : pS T n I L e) : (I 160 8 = 0 ↔ tK T n e = 275) ∧ (I 160 8 = 1 ↔ tK T n e = 276) ∧ (I 160 8 = 2 ↔ tK T n e = 273) ∧ (I 160 8 = 4 ↔ tK T n e = 274) ∧ (I 160 8 = 3 ↔ 256 ≤ tK T n e ∧ tK T n e < 273) := by
  obtain ⟨-, -, -, h8, -⟩ := h
  rw [h8]
  rcases tK_all (T := T) (n := n) (e := e) with ⟨x, hx, e1, -, -⟩ | e1 | e1 | e1 | e1
  · obtain ⟨g1, g2, -⟩ := sg_cd hx
    rw [e1, g1]
    refine ⟨?_, ?_, ?_, ?_, ?_⟩ <;> exact ⟨fun z => absurd z (by decide), fun z => by omega⟩
  · obtain ⟨w1, w2⟩ := wIx_rg (tV T n e)
    rw [e1]
    by_cases hv : tV T n e ∈ wdL
    · obtain ⟨v1, v2, v3⟩ := wIx_t hv
      rw [v1]
      refine ⟨?_, ?_, ?_, ?_, ⟨fun _ => ⟨v2, v3⟩, fun _ => rfl⟩⟩ <;> exact ⟨fun z => absurd z (by decide), fun z => by omega⟩
    · rw [wIx_f hv]; decide
  · rw [e1]; decide
  · rw [e1]; decide
  · rw [e1]; decide
end PS
