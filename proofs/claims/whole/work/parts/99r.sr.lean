/-! ===== class and model: an island with a fault ===== -/
section BF
variable {M M' A B C : zI}
theorem nR1 {rb a j : Nat} (ha : a ∉ [168, 173, 169, 170, 175, 176, 162, 177, 178, 179]) (hj : j ≠ rb) : ¬ inR rb a j := by
  simp only [List.mem_cons, List.not_mem_nil, or_false] at ha
  rintro (⟨-, z⟩ | ⟨z, -⟩ | ⟨z, -⟩ | ⟨z, -⟩ | z)
  · exact hj z
  all_goals (simp only [List.mem_cons, List.not_mem_nil, or_false] at z; omega)
theorem nR0 {rb a j : Nat} (ha : a ∉ [163, 164, 165, 166, 167, 171, 172, 168, 173, 169, 170, 175, 176, 162, 177, 178, 179]) : ¬ inR rb a j := by
  simp only [List.mem_cons, List.not_mem_nil, or_false] at ha
  rintro (⟨z, -⟩ | ⟨z, -⟩ | ⟨z, -⟩ | ⟨z, -⟩ | z)
  all_goals (simp only [List.mem_cons, List.not_mem_nil, or_false] at z; omega)
theorem nR8 {rb a j : Nat} (ha : a = 168 ∨ a = 173) (hj : ¬ (8 * rb ≤ j ∧ j < 8 * rb + 8)) : ¬ inR rb a j := by
  rintro (⟨z, -⟩ | ⟨-, z⟩ | ⟨z, -⟩ | ⟨z, -⟩ | z)
  · simp only [List.mem_cons, List.not_mem_nil, or_false] at z; omega
  · exact hj z
  all_goals (simp only [List.mem_cons, List.not_mem_nil, or_false] at z; omega)
theorem nR6 {rb a j : Nat} (ha : a = 169 ∨ a = 170) (hj : ¬ (6 * rb ≤ j ∧ j < 6 * rb + 6)) : ¬ inR rb a j := by
  rintro (⟨z, -⟩ | ⟨z, -⟩ | ⟨-, z⟩ | ⟨z, -⟩ | z)
  · simp only [List.mem_cons, List.not_mem_nil, or_false] at z; omega
  · simp only [List.mem_cons, List.not_mem_nil, or_false] at z; omega
  · exact hj z
  all_goals (simp only [List.mem_cons, List.not_mem_nil, or_false] at z; omega)
theorem nR7 {rb a j : Nat} (ha : a = 175 ∨ a = 176) (hj : ¬ (700 * rb ≤ j ∧ j < 700 * rb + 700)) : ¬ inR rb a j := by
  rintro (⟨z, -⟩ | ⟨z, -⟩ | ⟨z, -⟩ | ⟨-, z⟩ | z)
  · simp only [List.mem_cons, List.not_mem_nil, or_false] at z; omega
  · simp only [List.mem_cons, List.not_mem_nil, or_false] at z; omega
  · simp only [List.mem_cons, List.not_mem_nil, or_false] at z; omega
  · exact hj z
  · simp only [List.mem_cons, List.not_mem_nil, or_false] at z; omega
/-- the other bank was written -/
theorem oFr_bE {L L' : zL} (hB : MB A) (h : oFr (1 - vB A) A L B L') : bE A B := by
  have b2 := hB.1.1
  obtain ⟨h1, h2, -⟩ := h
  refine ⟨h2 28 (by decide) (by decide) (by decide), ⟨h1 _ _ (by decide) (nR1 (by decide) (by omega)), h1 _ _ (by decide) (nR1 (by decide) (by omega)), h1 _ _ (by decide) (nR1 (by decide) (by omega)), h1 _ _ (by decide) (nR1 (by decide) (by omega)), h1 _ _ (by decide) (nR1 (by decide) (by omega))⟩, fun k hk => ⟨h1 _ _ (by decide) (nR8 (Or.inl rfl) (by omega)), h1 _ _ (by decide) (nR8 (Or.inr rfl) (by omega))⟩, fun i hi => ⟨h1 _ _ (by decide) (nR6 (Or.inl rfl) (by omega)), h1 _ _ (by decide) (nR6 (Or.inr rfl) (by omega))⟩, fun k k1 k2 => ⟨h1 _ _ (by decide) (nR7 (Or.inl rfl) (by omega)), h1 _ _ (by decide) (nR7 (Or.inr rfl) (by omega))⟩⟩
theorem oFr_cell {L L' : zL} {rb : Nat} (h : oFr rb A L B L') {a : Nat} (h0 : a ≠ 160) (ha : a ∉ [163, 164, 165, 166, 167, 171, 172, 168, 173, 169, 170, 175, 176, 162, 177, 178, 179]) : B a = A a := funext fun j => h.1 a j h0 (nR0 ha)
theorem mE_bE (hB : MB A) (h : mE A B) : bE A B := by
  have b2 := hB.1.1
  have c := fun a ha h0 => h.1.1 a (meC_n a ha) h0
  refine ⟨h.1.2 28 (by decide), ⟨by rw [c 163 (by decide) (by decide)], by rw [c 165 (by decide) (by decide)], h.2.1 _ (by omega), by rw [c 167 (by decide) (by decide)], by rw [c 171 (by decide) (by decide)]⟩, fun k _ => ⟨by rw [c 168 (by decide) (by decide)], by rw [c 173 (by decide) (by decide)]⟩, fun i _ => ⟨by rw [c 169 (by decide) (by decide)], by rw [c 170 (by decide) (by decide)]⟩, fun k _ _ => h.2.2 k (by omega)⟩
theorem bE_tr (h : bE A B) (h' : bE B C) : bE A C := by
  have e := bE_B h
  obtain ⟨a1, ⟨a2, a3, a4, a5, a6⟩, a7, a8, a9⟩ := h
  obtain ⟨b1, ⟨b2, b3, b4, b5, b6⟩, b7, b8, b9⟩ := h'
  rw [e] at b2 b3 b4 b5 b6 b7 b8 b9
  exact ⟨b1.trans a1, ⟨b2.trans a2, b3.trans a3, b4.trans a4, b5.trans a5, b6.trans a6⟩, fun k hk => ⟨(b7 k hk).1.trans (a7 k hk).1, (b7 k hk).2.trans (a7 k hk).2⟩, fun k hk => ⟨(b8 k hk).1.trans (a8 k hk).1, (b8 k hk).2.trans (a8 k hk).2⟩, fun k k1 k2 => ⟨(b9 k k1 k2).1.trans (a9 k k1 k2).1, (b9 k k1 k2).2.trans (a9 k k1 k2).2⟩⟩
/-- the heap B with the scene of A -/
noncomputable def hSc (A B : zI) : zI := fun a => if a = 180 ∨ a = 181 ∨ a = 182 ∨ a = 186 then A a else if a = 160 then (fun s => if s = 38 ∨ s = 39 ∨ s = 40 ∨ s = 46 then A 160 s else B 160 s) else B a
theorem hSc_a {a : Nat} (h : a = 180 ∨ a = 181 ∨ a = 182 ∨ a = 186) : hSc A B a = A a := if_pos h
theorem hSc_b {a : Nat} (h : ¬ (a = 180 ∨ a = 181 ∨ a = 182 ∨ a = 186)) (h0 : a ≠ 160) : hSc A B a = B a := by unfold hSc; rw [if_neg h, if_neg h0]
theorem hSc_s {s : Nat} (h : s = 38 ∨ s = 39 ∨ s = 40 ∨ s = 46) : hSc A B 160 s = A 160 s := by unfold hSc; rw [if_neg (by decide), if_pos rfl, if_pos h]
theorem hSc_t {s : Nat} (h : ¬ (s = 38 ∨ s = 39 ∨ s = 40 ∨ s = 46)) : hSc A B 160 s = B 160 s := by unfold hSc; rw [if_neg (by decide), if_pos rfl, if_neg h]
theorem hSc_S : mSe A (hSc A B) := by
  unfold mSe
  rw [hSc_a (by omega), hSc_a (by omega), hSc_a (by omega), hSc_s (by omega), hSc_s (by omega), hSc_s (by omega)]
  exact mSe_rf A
theorem hSc_E : mE B (hSc A B) := by
  refine ⟨⟨fun a p h0 => hSc_b (fun z => p ?_) h0, fun k p => hSc_t (fun z => p ?_)⟩, fun k _ => by rw [hSc_b (by decide) (by decide)], fun k _ => by rw [hSc_b (by decide) (by decide), hSc_b (by decide) (by decide)]; exact ⟨rfl, rfl⟩⟩
  · refine meC_hi ?_
    rcases z with rfl | rfl | rfl | rfl <;> decide
  · rcases z with rfl | rfl | rfl | rfl <;> decide
/-- the boxes, when the other bank was written -/
theorem bE_rBx {I : zI} {P : zP} {t : Nat} (hB : MB A) (h : bE A B) (ho : bOt A B 3) (hr : rBx A I P t) : rBx B I P t := by
  intro k hk
  obtain ⟨x1, x2⟩ := hr k hk
  rw [(ho k (by omega)).1]
  refine ⟨x1, fun z => ?_⟩
  obtain ⟨Mb, y1, y2, y3, y4, g, y5⟩ := x2 z
  have e1 : bE Mb (hSc Mb B) := bE_tr (bE_tr (mE_bE y3.1.1 (mE_sy y2)) h) (mE_bE (bE_MB h hB) hSc_E)
  have mp : MP (hSc Mb B) := bE_MP e1 hSc_S y3.1 (hSc_s (by omega)) (hSc_a (by omega)) y3.2.2.2.2.2.1
  obtain ⟨s1, s2⟩ := bE_MSc e1 hSc_S mp y3 y4
  refine ⟨hSc Mb B, ?_, hSc_E, s1, s2, g, bE_rSc e1 hSc_S y3 y5⟩
  obtain ⟨v1, v2, v3, v4, v5, v6⟩ := bHd_o (by omega) y1 ho
  refine ⟨by rw [hSc_s (by omega)]; exact v1, by rw [hSc_s (by omega)]; exact v2, by rw [hSc_s (by omega)]; exact v3, by rw [hSc_a (by omega)]; exact v4, by rw [hSc_a (by omega)]; exact v5, by rw [hSc_a (by omega)]; exact v6⟩
end BF
