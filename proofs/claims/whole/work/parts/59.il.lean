/-! ===== the model: island, its end ===== -/
theorem lp_X12_island_67 {d : Nat} {Q : zQt} {J : zI} {L : zL} {P : zP} (hP : zPk P) (hB : MB J) (hd : 2 ≤ d)
    (kk : ∀ I', zFr [180, 199] [38, 39, 40, 46] J I' → (∀ k, k < 4 → I' 199 k = -1) → (∀ w, w < 256 → I' 180 w = bP (w < vN J)) → I' 160 38 = 0 → I' 160 39 = 0 → I' 160 40 = 0 → I' 160 46 = 0 → Q (some (.int (nI (vNp J)))) I' L P 205) :
    ∀ m i I, i + m = 4 → zFr [199] [] J I → (∀ k, k < i → I 199 k = -1) → gw_X12_island (d + 1) Q 67 [some (.ref 160), some (.int (nI i))] [] I L P := by
  intro m
  induction m with
  | zero =>
    intro i I hi hf h1
    have : i = 4 := by omega
    subst this
    have hB1 := MB_fr hf (by decide) (by decide) hB
    have eN := vN_fr hf (by decide) (by decide)
    refine g_X12_island_67 hP ⟨fun _ => sp_X12_begin hP hB1 hd (fun I2 a1 a2 a38 a39 a40 a46 => ⟨hP, ?_, ?_⟩), fun q => absurd (by decide) q⟩
    · rw [a1.2 28 (by decide), hB1.1.2]; exact nx_in hB1.1.1 (by decide)
    · have e163 : I2 163 (I2 160 28).toNatClampNeg = nI (vNp J) := by
        rw [a1.2 28 (by decide), a1.1 163 (by decide) (by decide), hf.2 28 (by simp), hf.1 163 (by decide) (by decide)]
        exact hB.2.2
      rw [e163]
      exact kk I2 (zFr_tr (zFr_wk hf (by decide) (by simp)) (zFr_wk a1 (by decide) (by decide))) (fun k hk => by rw [a1.1 199 (by decide) (by decide)]; exact h1 k hk) (fun w hw => by rw [a2 w hw, eN]) a38 a39 a40 a46
  | succ m ih =>
    intro i I hi hf h1
    refine g_X12_island_67 hP ⟨fun q => absurd q ?_, fun _ => ⟨nx_in (by omega) (by decide), fun I1 e1 => ?_⟩⟩
    · rw [show (4 : Int32) = nI 4 from rfl, nI_leI (by decide) (by omega)]; omega
    · rw [nI_cl (by omega)] at e1
      subst e1
      rw [nI_1]
      refine ih (i + 1) _ (by omega) (zFr_c hf (by decide) (by decide)) (fun k hk => ?_)
      rcases Nat.lt_succ_iff_lt_or_eq.mp hk with z | z
      · rw [zuI_o (by omega)]; exact h1 k z
      · subst z; exact zuI_v _ _ _ _
