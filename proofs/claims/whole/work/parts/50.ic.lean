/-! ===== the model: one is added ===== -/
def aAdd (A : Ai) (v : Int64) (tw s st : Nat) : Ai := aU (aU (aU (aU (aWn A (A.1 0) v) 1 tw) (10 + A.1 0) s) (20 + A.1 0) st) 0 (A.1 0 + 1)
section ADD
variable {A : Ai} {v : Int64} {tw s st : Nat}
theorem aAdd_0 (h8 : A.1 0 < 8) : (aAdd A v tw s st).1 0 = A.1 0 + 1 := aU_v _ _ _
theorem aAdd_1 (h8 : A.1 0 < 8) : (aAdd A v tw s st).1 1 = tw := by unfold aAdd; rw [aU_o (by omega), aU_o (by omega), aU_o (by omega), aU_v]
theorem aAdd_s (h8 : A.1 0 < 8) : (aAdd A v tw s st).1 (10 + A.1 0) = s := by unfold aAdd; rw [aU_o (by omega), aU_o (by omega), aU_v]
theorem aAdd_t (h8 : A.1 0 < 8) : (aAdd A v tw s st).1 (20 + A.1 0) = st := by unfold aAdd; rw [aU_o (by omega), aU_v]
theorem aAdd_o (h8 : A.1 0 < 8) {j : Nat} (h0 : j ≠ 0) (h1 : j ≠ 1) (h2 : j ≠ 10 + A.1 0) (h3 : j ≠ 20 + A.1 0) : (aAdd A v tw s st).1 j = A.1 j := by unfold aAdd; rw [aU_o h0, aU_o h3, aU_o h2, aU_o h1]; rfl
end ADD
theorem aAdd_n {A : Ai} {v : Int64} {tw s st : Nat} (j : Nat) : (aAdd A v tw s st).2.1 j = if j = A.1 0 then v else A.2.1 j := rfl
theorem iM_add {T : Nat → Int32} {n rb e tw s st : Nat} {I I1 : zI} {L L1 : zL} {A : Ai} {v : Int64} (hM : iM rb I L A) (h8 : A.1 0 < 8) (hns : A.1 3 = 0) (h : oS T n rb (A.1 0) I L v I1 L1 e) (ht : tw < 2 ^ (A.1 0 + 1)) (hs : s < 256) (hst : st ≤ 1) (e167 : I1 167 rb = nI tw) (e168 : I1 168 (8 * rb + A.1 0) = nI s) (e173 : I1 173 (8 * rb + A.1 0) = nI st) :
    iM rb (zuI I1 163 rb (nI (A.1 0 + 1))) L1 (aAdd A v tw s st) ∧ pS T n (zuI I1 163 rb (nI (A.1 0 + 1))) L1 e ∧ (zuI I1 163 rb (nI (A.1 0 + 1))) 160 4 = 0 ∧ (zuI I1 163 rb (nI (A.1 0 + 1))) 160 5 = I 160 5 ∧ iFr rb I L (zuI I1 163 rb (nI (A.1 0 + 1))) L1 := by
  obtain ⟨m1, m2, m3, m4, m5, m6, m7, m8, m9, m10, m11⟩ := hM
  obtain ⟨h1, h2, h3, h4, h5, h6, h7⟩ := h
  have hf : zFr [163] [] I1 (zuI I1 163 rb (nI (A.1 0 + 1))) := zFr_c (zFr_rf _ _ _) (by decide) (by decide)
  have s163 : (zuI I1 163 rb (nI (A.1 0 + 1))) 163 rb = nI (A.1 0 + 1) := zuI_v _ _ _ _
  have o163 : ∀ j, j ≠ rb → (zuI I1 163 rb (nI (A.1 0 + 1))) 163 j = I1 163 j := fun j hj => zuI_o hj
  generalize zuI I1 163 rb (nI (A.1 0 + 1)) = I2 at hf s163 o163
  have f : zFr [163, 167, 168, 173] gS I I2 := zFr_tr (zFr_wk h3 (by decide) (by decide)) (zFr_wk hf (by decide) (by simp))
  have t167 : I2 167 = I1 167 := hf.1 167 (by decide) (by decide)
  have t168 : I2 168 = I1 168 := hf.1 168 (by decide) (by decide)
  have t173 : I2 173 = I1 173 := hf.1 173 (by decide) (by decide)
  have o : ∀ j, 2 ≤ j → j < 10 → (aAdd A v tw s st).1 j = A.1 j := fun j a b => aAdd_o h8 (by omega) (by omega) (by omega) (by omega)
  have o3 : ∀ j, 30 ≤ j → (aAdd A v tw s st).1 j = A.1 j := fun j a => aAdd_o h8 (by omega) (by omega) (by omega) (by omega)
  refine ⟨⟨⟨by rw [f.2 29 (by decide)]; exact m1.1, m1.2⟩, ⟨by rw [aAdd_0 h8]; omega, by rw [aAdd_0 h8]; exact s163⟩, ⟨by rw [aAdd_0 h8, aAdd_1 h8]; exact ht, by rw [aAdd_1 h8, t167]; exact e167⟩, ⟨by rw [o 2 (by decide) (by decide)]; exact m4.1, by rw [o 2 (by decide) (by decide), f.1 164 (by decide) (by decide)]; exact m4.2⟩, ⟨by rw [o 3 (by decide) (by decide)]; exact m5.1, by rw [o 3 (by decide) (by decide), f.1 165 (by decide) (by decide)]; exact m5.2⟩, ⟨by rw [o 4 (by decide) (by decide)]; exact m6.1, by rw [o 4 (by decide) (by decide), f.1 166 (by decide) (by decide)]; exact m6.2⟩, ⟨by rw [o 5 (by decide) (by decide)]; exact m7.1, by rw [o 5 (by decide) (by decide), f.1 172 (by decide) (by decide)]; exact m7.2⟩, ⟨by rw [o 6 (by decide) (by decide)]; exact m8.1, by rw [o 6 (by decide) (by decide), f.1 171 (by decide) (by decide)]; exact m8.2⟩, fun k hk => ?_, ⟨by rw [f.2 30 (by decide)]; exact m10.1, by rw [f.2 31 (by decide)]; exact m10.2.1, ?_, ?_⟩, fun i hi => ?_⟩, pS_fr h1 hf (by decide) (by decide) (by decide) (by decide) (by decide) (by decide) rfl, by rw [hf.2 4 (by simp)]; exact h2, by rw [f.2 5 (by decide)], fun a j p q => ?_, fun x hx => ?_, fun a j p q => ?_⟩
  · rw [aAdd_0 h8] at hk
    rw [t168, t173]
    by_cases ek : k = A.1 0
    · subst ek
      rw [aAdd_s h8, aAdd_t h8, aAdd_n, if_pos rfl]
      exact ⟨hs, e168, hst, e173, h7⟩
    · rw [aAdd_o h8 (j := 10 + k) (by omega) (by omega) (by omega) (by omega), aAdd_o h8 (j := 20 + k) (by omega) (by omega) (by omega) (by omega), aAdd_n, if_neg ek, (h5 (8 * rb + k) (by omega)).1, (h5 (8 * rb + k) (by omega)).2, h6 174 (8 * rb + k) (fun z => absurd z.1 (by decide)) (fun z => by have := z.2; omega)]
      exact m9 k (by omega)
  · rw [f.2 32 (by decide), o 3 (by decide) (by decide), o3 _ (by omega)]; exact m10.2.2.1
  · rw [o 3 (by decide) (by decide), o 4 (by decide) (by decide), o3 _ (by omega)]; exact m10.2.2.2
  · rw [o 3 (by decide) (by decide), hns] at hi
    exact absurd hi (Nat.not_lt_zero i)
  · by_cases a163 : a = 163
    · subst a163
      rw [o163 j (fun z => q (Or.inl ⟨by decide, z⟩)), h3.1 163 (by decide) (by decide)]
    · rw [hf.1 a (by simp; exact a163) p]
      by_cases a167 : a = 167
      · subst a167
        exact h4 j (fun z => q (Or.inl ⟨by decide, z⟩))
      · by_cases a168 : a = 168
        · subst a168
          exact (h5 j (fun z => q (Or.inr (Or.inl ⟨by decide, by omega, by omega⟩)))).1
        · by_cases a173 : a = 173
          · subst a173
            exact (h5 j (fun z => q (Or.inr (Or.inl ⟨by decide, by omega, by omega⟩)))).2
          · rw [h3.1 a (by simp; omega) p]
  · exact f.2 x (fun z => hx ((by decide : ∀ y ∈ gS, y ∈ iL) x z))
  · exact h6 a j p (fun z => q ⟨z.1, by omega, by omega⟩)
