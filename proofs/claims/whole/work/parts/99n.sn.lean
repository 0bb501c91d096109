/-! ===== the model: island ===== -/
section QL
variable {d : Nat} {I : zI} {L : zL} {P : zP}
/-- outside of the bank rb all is as it was, when an island is read -/
def oFr (rb : Nat) (I : zI) (L : zL) (I' : zI) (L' : zL) : Prop := (∀ a j, a ≠ 160 → ¬ inR rb a j → I' a j = I a j) ∧ (∀ s, s ∉ iL → s ≠ 2 → s ≠ 3 → I' 160 s = I 160 s) ∧ (∀ a j, ¬ (a = 160 ∧ j = 10) → ¬ (a = 174 ∧ 8 * rb ≤ j ∧ j < 8 * rb + 8) → L' a j = L a j) ∧ I' 160 2 = 0
theorem rb_n {v : Nat} (h : v < 2) : (1 : Int32) - nI v = nI (1 - v) := by
  have : v = 0 ∨ v = 1 := by omega
  rcases this with rfl | rfl <;> decide
theorem sp_X12_island (hP : zPk P) (hB : MB I) (hT : MTp I) (hd : 8 ≤ d) {K : Int32 → zI → zL → zP → Prop}
    (kk : ∀ T n, tX I T n → (∀ q, rIs T n (n + 1) A0 0 = .inl q → (q.1 ≠ 0 ∧ q.1 < 100) → ∀ I' L', oFr (1 - vB I) I L I' L' → I' 160 4 = nI q.1 → I' 160 5 = nI q.2 → K (-1) I' L' P) ∧
      (∀ A, rIs T n (n + 1) A0 0 = .inr A → ∀ J L', iM (1 - vB I) J L' A → oFr (1 - vB I) I L J L' → J 160 4 = 0 → J 160 5 = -1 → ∀ I', zFr [180, 199] [38, 39, 40, 46] (zuI (zuI J 160 28 (nI (1 - vB I))) 160 59 0) I' → (∀ k, k < 4 → I' 199 k = -1) → (∀ w, w < 256 → I' 180 w = bP (w < 2 ^ A.1 0)) → I' 160 38 = 0 → I' 160 39 = 0 → I' 160 40 = 0 → I' 160 46 = 0 → K (nI (A.1 0)) I' L' P)) : zMi zm_X12_island d [.ref 160] I L P K := by
  obtain ⟨d, rfl⟩ : ∃ e, d = e + 1 := ⟨d - 1, by omega⟩
  have b2 := hB.1.1
  refine g_X12_island hP (sp_X12_beginText hP hT (fun I1 a1 a2 a7 a4 a5 aX aS a162 I6 e6 => ?_))
  rw [a1.2 28 (by decide), hB.1.2, rb_n b2] at e6
  have s6 : ∀ s, s ≠ 29 → I6 160 s = I1 160 s := fun s hs => by rw [e6, zuI_o hs]
  have c6 : ∀ a, a ≠ 160 → I6 a = I1 a := fun a ha => by rw [e6, zuI_ne ha]
  have h29 : I6 160 29 = nI (1 - vB I) := by rw [e6, zuI_v]
  clear e6
  refine sp_X12_clearBank (rb := 1 - vB I) hP h29 (by omega) (fun I8 m8 f8 z8 => ?_)
  have X8 : MX I8 := by unfold MX vSz; rw [z8.2 3 (by decide), s6 3 (by decide)]; exact aX
  have S8 : vSz I8 = vTp I := by unfold vSz; rw [z8.2 3 (by decide), s6 3 (by decide)]; exact aS
  have g7 : I8 160 7 = nI 0 := by rw [z8.2 7 (by decide), s6 7 (by decide)]; exact a7
  have T8 : ∀ k, k < vTp I → vTx I8 k = vTt I k := by
    intro k hk
    unfold vTx vTt
    rw [z8.1 162 (by decide) (by decide), c6 162 (by decide), a162 k hk]
  refine sp_X12_goOn (e := 0) hP X8 (zFr_rf _ _ _) (Nat.zero_le _) g7 (by omega) (fun I7 L7 h1 h2 h3 => ?_)
  have hp : pS (vTx I8) (vSz I8) I7 L7 0 := by
    refine ⟨⟨?_, ?_, ?_, Nat.zero_le _⟩, h3⟩
    · unfold vTx; rw [h1.1 162 (by decide) (by decide)]
    · unfold vSz; rw [h1.2 3 (by decide)]
    · unfold MX vSz; rw [h1.2 3 (by decide)]; exact X8
  have g4 : I7 160 4 = 0 := by rw [h1.2 4 (by decide), z8.2 4 (by decide), s6 4 (by decide)]; exact a4
  have g5 : I7 160 5 = -1 := by rw [h1.2 5 (by decide), z8.2 5 (by decide), s6 5 (by decide)]; exact a5
  have g2 : I7 160 2 = 0 := by rw [h1.2 2 (by decide), z8.2 2 (by decide), s6 2 (by decide)]; exact a2
  have f7 := iFr_go f8 h1 h2
  have o7 : ∀ I' L', iFr (1 - vB I) I7 L7 I' L' → oFr (1 - vB I) I L I' L' := by
    intro I' L' f'
    have f := iFr_tr f7 f'
    refine ⟨fun a j p q => ?_, fun s p p2 p3 => ?_, fun a j p q => f.2.2 a j p q, by rw [f'.2.1 2 (by decide)]; exact g2⟩
    · rw [f.1 a j p q, c6 a p]
      by_cases c : a = 162
      · exact absurd (by rw [c]; exact Or.inr (Or.inr (Or.inr (Or.inr (by decide))))) q
      · rw [a1.1 a (by simp only [List.mem_cons, List.not_mem_nil, or_false]; omega) p]
    · have p29 : s ≠ 29 := fun z => p (by rw [z]; decide)
      rw [f.2.1 s p, s6 s p29, a1.2 s (fun z => by
        simp only [List.mem_cons, List.not_mem_nil, or_false] at z
        rcases z with z | z | z | z | z
        · exact p2 z
        · exact p3 z
        · exact p (by rw [z]; decide)
        · exact p (by rw [z]; decide)
        · exact p (by rw [z]; decide))]
  obtain ⟨kF, kO⟩ := kk (vTx I8) (vSz I8) ⟨S8, fun k hk => T8 k (by omega)⟩
  refine lp_X12_island_22 (T := vTx I8) (n := vSz I8) (rb := 1 - vB I) (I0 := I7) (L0 := L7) hP (by omega) (res := rIs (vTx I8) (vSz I8) (vSz I8 + 1) A0 0) ?_ (vSz I8 + 1) A0 0 I7 L7 (by omega) rfl (iM_go m8 h1 h2) hp g4 rfl (iFr_rf _ _ _)
  cases hr : rIs (vTx I8) (vSz I8) (vSz I8 + 1) A0 0 with
  | inl q =>
    intro I' L' hk f' x4 x5
    exact qi (kF q hr hk I' L' (o7 I' L' f') x4 x5)
  | inr A =>
    intro I' L' e' mA hp' x4 x5 f'
    have e29 := mA.1.1
    rw [e29]
    have hBJ : MB (zuI (zuI I' 160 28 (nI (1 - vB I))) 160 59 0) ∧ vNp (zuI (zuI I' 160 28 (nI (1 - vB I))) 160 59 0) = A.1 0 := by
      have v28 : (zuI (zuI I' 160 28 (nI (1 - vB I))) 160 59 0) 160 28 = nI (1 - vB I) := by rw [zuI_o (by decide), zuI_v]
      have vb : vB (zuI (zuI I' 160 28 (nI (1 - vB I))) 160 59 0) = 1 - vB I := (congrArg Int32.toNatClampNeg v28).trans (nI_cl (by omega))
      have v163 : (zuI (zuI I' 160 28 (nI (1 - vB I))) 160 59 0) 163 (1 - vB I) = nI (A.1 0) := by rw [zuI_ne (by decide), zuI_ne (by decide)]; exact mA.2.1.2
      have vn : vNp (zuI (zuI I' 160 28 (nI (1 - vB I))) 160 59 0) = A.1 0 := by
        unfold vNp
        rw [vb, v163, nI_cl (by have := mA.2.1.1; omega)]
      exact ⟨⟨⟨by rw [vb]; omega, by rw [vb]; exact v28⟩, by rw [vn]; exact mA.2.1.1, by rw [vb, vn]; exact v163⟩, vn⟩
    refine lp_X12_island_67 hP hBJ.1 (by omega) (fun I2 y1 y2 y3 y38 y39 y40 y46 => ?_) 4 0 _ rfl (zFr_rf _ _ _) (fun k hk => absurd hk (Nat.not_lt_zero k))
    rw [hBJ.2]
    refine qi (kO A hr I' L' mA (o7 I' L' f') x4 (by rw [x5]; exact g5) I2 y1 y2 (fun w hw => ?_) y38 y39 y40 y46)
    rw [y3 w hw]
    unfold vN
    rw [hBJ.2]
end QL
