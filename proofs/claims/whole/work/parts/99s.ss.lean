/-! ===== class and model: behind an island with a fault ===== -/
section BH
variable {I I1 I2 : zI} {L L1 L2 : zL} {P : zP} {t st : Nat} {b : Nat → Nat} {cd : Nat → Cd}
theorem Rl_bf (h : Rl I I L P t st b cd) (hP1 : zPk (pRd P (16 - t) (16 - t + 3))) (hf : ∀ a, ¬ (a = 1 ∨ a = 17 ∨ a = 18 ∨ a = 20 ∨ a = 21 ∨ (16 - t ≤ a ∧ a ≤ 16 - t + 5)) → I1 a = I a) (hL : ∀ x, x ≠ 22 → x ≠ 16 - t + 1 → L1 x = L x) (h1 : I1 1 1 = 0) (ho : oFr (1 - vB I1) I1 L1 I2 L2) (h17 : I1 17 0 = I2 160 4 ∧ I1 17 1 = I2 160 5) (hz : I1 (16 - t + 5) 0 = 0) : Rl I2 I2 L2 (pRd P (16 - t) (16 - t + 3)) t st b cd := by
  have hS := h.2.1.1
  have ht := (Rl_t0 h).2.2
  have hil := ht
  unfold il at hil
  have em : eM I I1 := fun a ha => hf a (by omega)
  have hB1 : MB I1 := mE_MB (mE_c em) hS.1.1
  have b2 := hS.1.1.1.1
  have eB : vB I1 = vB I := mE_B (mE_c em)
  have hbE : bE I I2 := bE_tr (mE_bE hS.1.1 (mE_c em)) (oFr_bE hB1 ho)
  have s2 : ∀ s, s ∉ iL → s ≠ 2 → s ≠ 3 → I2 160 s = I 160 s := fun s p1 p2 p3 => by rw [ho.2.1 s p1 p2 p3, em 160 (by decide)]
  have c2 : ∀ a, a ≠ 160 → a ∉ [163, 164, 165, 166, 167, 171, 172, 168, 173, 169, 170, 175, 176, 162, 177, 178, 179] → I2 a = I1 a := fun a h0 ha => oFr_cell ho h0 ha
  have hi2 : ∀ a, 160 < a → a ∉ [163, 164, 165, 166, 167, 171, 172, 168, 173, 169, 170, 175, 176, 162, 177, 178, 179] → I2 a = I a := fun a h0 ha => by rw [c2 a (by omega) ha, em a (by omega)]
  have lo2 : ∀ a, a < 160 → I2 a = I1 a := fun a ha => c2 a (by omega) (by simp only [List.mem_cons, List.not_mem_nil, or_false]; omega)
  have hSe : mSe I I2 := by
    unfold mSe
    rw [hi2 180 (by decide) (by decide), hi2 181 (by decide) (by decide), hi2 182 (by decide) (by decide), s2 38 (by decide) (by decide) (by decide), s2 39 (by decide) (by decide) (by decide), s2 40 (by decide) (by decide) (by decide)]
    exact mSe_rf I
  have hG : mG I I2 := ⟨⟨hi2 189 (by decide) (by decide), hi2 190 (by decide) (by decide), hi2 191 (by decide) (by decide), hi2 192 (by decide) (by decide), hi2 197 (by decide) (by decide)⟩, s2 59 (by decide) (by decide) (by decide), s2 60 (by decide) (by decide) (by decide)⟩
  have hOt : bOt I I2 3 := by
    intro c _
    rw [hi2 199 (by decide) (by decide), hi2 200 (by decide) (by decide), hi2 201 (by decide) (by decide), hi2 202 (by decide) (by decide), hi2 203 (by decide) (by decide), hi2 204 (by decide) (by decide)]
    exact ⟨rfl, rfl, rfl, fun _ _ => rfl, fun _ _ => rfl, fun _ _ => rfl⟩
  have mp : MP I2 := bE_MP hbE hSe hS.1 (s2 46 (by decide) (by decide) (by decide)) (hi2 186 (by decide) (by decide)) hS.2.2.2.2.2.1
  obtain ⟨S2, C2⟩ := bE_MSc hbE hSe mp hS h.2.1.2.1
  have cc : ∀ a, a < 160 → ¬ (a = 1 ∨ a = 17 ∨ a = 18 ∨ a = 20 ∨ a = 21 ∨ (16 - t ≤ a ∧ a ≤ 16 - t + 5)) → I2 a = I a := fun a a1 a2 => by rw [lo2 a a1, hf a a2]
  have vt : vTp I2 = 0 := by unfold vTp; rw [ho.2.2.2]; decide
  have eL : ∀ x, x ≠ 160 → x ≠ 174 → x ≠ 22 → x ≠ 16 - t + 1 → L2 x = L x := fun x x1 x2 x3 x4 => by
    funext j
    rw [ho.2.2.1 x j (by omega) (by omega), hL x x3 x4]
  obtain ⟨g, hs⟩ := h.2.2.2.2.2.1
  obtain ⟨p1, p2, p3⟩ := h.1
  refine ⟨⟨hP1, by rw [pRd_o (by decide)]; exact p2, by rw [pRd_o (by decide)]; exact p3⟩, ⟨S2, C2, ⟨by rw [vt]; omega, by rw [vt, ho.2.2.2]; rfl, fun k => by rw [hi2 161 (by decide) (by decide)]; exact h.2.1.2.2.1.2.2 k⟩, mG_H hG h.2.1.2.2.2.1, by rw [hG.2.2]; exact h.2.1.2.2.2.2⟩, ?_, ⟨by rw [vt]; omega, by rw [vt, lo2 1 (by decide)]; exact h1, fun k hk => absurd hk (by rw [vt]; omega)⟩, by rw [lo2 17 (by decide)]; exact h17, ⟨g, rSc_c (bE_rSc hbE hSe hS hs) (fun a ha => cc a (by omega) (by omega)) (pRd_o (by decide))⟩, rBx_c ht (bE_rBx hS.1.1 hbE hOt h.2.2.2.2.2.2.1) (cc 89 (by decide) (by omega)) (cc t (by omega) (by omega)) (fun a a1 a2 => cc a (by omega) (by omega)) (fun k hk => pRd_o (by omega)), ?_, bE_gK hbE hS.1.1 hS.2.2.1 h.2.1.2.1 (gK_c h.2.2.2.2.2.2.2.2.1 hS.2.2.1.1 (fun a a1 a2 => cc a (by omega) (by omega))), ?_, ?_⟩
  · have r0 := bE_rIl (L' := L2) hbE hS h.2.1.2.1 h.2.2.1 (eL _ (by omega) (by omega) (by omega) (by omega)) (fun k hk => ?_)
    · obtain ⟨x1, x2, x3⟩ := r0
      exact ⟨tR_c x1 (fun a a1 a2 => cc a (by omega) (by omega)), by rw [cc t (by omega) (by omega)]; exact x2, x3⟩
    · rw [ho.2.2.1 174 _ (by omega) (by rw [eB]; omega), hL 174 (by omega) (by omega)]
  · have q := h.2.2.2.2.2.2.2.1
    refine sgR_c (I := I) ?_ (fun a a1 a2 => cc a (by omega) (by omega))
    unfold sgR vNg at q ⊢
    rw [bE_np hbE, hG.2.1, hG.2.2, hG.1.1, hG.1.2.1, hG.1.2.2.1, hG.1.2.2.2.1, hG.1.2.2.2.2]
    exact q
  · intro i hi
    rw [eL 19 (by decide) (by decide) (by decide) (by omega)]
    exact h.2.2.2.2.2.2.2.2.2.1 i hi
  · have w := h.2.2.2.2.2.2.2.2.2.2
    rcases hil with rfl | rfl
    · exact ⟨by rw [cc 10 (by decide) (by decide)]; exact w.1, by rw [lo2 16 (by decide)]; exact hz⟩
    · exact ⟨by rw [lo2 10 (by decide)]; exact hz, by rw [cc 16 (by decide) (by decide)]; exact w.2⟩
end BH
