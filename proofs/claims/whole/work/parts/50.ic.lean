/-! ===== the model: one is added ===== -/
def aAdd (A : Ai) (v : Int64) (tw s st : Nat) : Ai := aU (aU (aU (aU (aWn A (A.1 0) v) 1 tw) (10 + A.1 0) s) (20 + A.1 0) st) 0 (A.1 0 + 1)
section ADD
variable {A : Ai} {v : Int64} {tw s st : Nat}
theorem aAdd_0 (h8 : A.1 0 < 8) : (aAdd A v tw s st).1 0 = A.1 0 + 1 := aU_v _ _ _
theorem aAdd_1 (h8 : A.1 0 < 8) : (aAdd A v tw s st).1 1 = tw := by unfold aAdd; rw [aU_o (by omega), aU_o (by omega), aU_o (by omega), aU_v]
theorem aAdd_s (h8 : A.1 0 < 8) : (aAdd A v tw s st).1 (10 + A.1 0) = s := by unfold aAdd; rw [aU_o (by omega), aU_o (by omega), aU_v]
theorem aAdd_t (h8 : A.1 0 < 8) : (aAdd A v tw s st).1 (20 + A.1 0) = st := by unfold aAdd; rw [aU_o (by omega), aU_v]
theorem aAdd_o (h8 : A.1 0 < 8) {j : Nat} (h0 : j ≠ 0) (h1 : j ≠ 1) (h2 : j ≠ 10 + A.1 0) (h3 : j ≠ 20 + A.1 0) : (aAdd A v tw s st).1 j = A.1 j := by unfold aAdd; rw [aU_o h0, aU_o h3, aU_o h2, aU_o h1]; rfl
end ADD
theorem aAdd_n {A : Ai} {v : Int64} {tw s st : Nat} (j : Nat) : (aAdd A v tw s st).2.1 j = if j = A.1 0 then v else A.2.1 j := rfl
theorem iM_add {T : Nat → Int32} {n rb e tw s st : Nat} {I I1 : zI} {L L1 : zL} {A : Ai} {v : Int64} (hM : iM rb I L A) (h8 : A.1 0 < 8) (hns : A.1 3 = 0) (h : oS T n rb (A.1 0) I L v I1 L1 e) (ht : tw < 2 ^ (A.1 0 + 1)) (hs : s < 256) (hst : st ≤ 1) (e167 : I1 167 rb = nI tw) (e168 : I1 168 (8 * rb + A.1 0) = nI s) (e173 : I1 173 (8 * rb + A.1 0) = nI st) :
    iM rb (zuI I1 163 rb (nI (A.1 0 + 1))) L1 (aAdd A v tw s st) ∧ pS T n (zuI I1 163 rb (nI (A.1 0 + 1))) L1 e ∧ (zuI I1 163 rb (nI (A.1 0 + 1))) 160 4 = 0 ∧ (zuI I1 163 rb (nI (A.1 0 + 1))) 160 5 = I 160 5 ∧ iFr rb I L (zuI I1 163 rb (nI (A.1 0 + 1))) L1 := by
  obtain ⟨m1, m2, m3, m4, m5, m6, m7, m8, m9, m10, m11⟩ := hM
  obtain ⟨h1, h2, h3, h4, h5, h6, h7⟩ := h
  have hf : zFr [163] [] I1 (zuI I1 163 rb (nI (A.1 0 + 1))) := zFr_c (zFr_rf _ _ _) (by decide) (by decide)
  have s163 : (zuI I1 163 rb (nI (A.1 0 + 1))) 163 rb = nI (A.1 0 + 1) := zuI_v _ _ _ _
  have o163 : ∀ j, j ≠ rb → (zuI I1 163 rb (nI (A.1 0 + 1))) 163 j = I1 163 j := fun j hj => zuI_o hj
  generalize zuI I1 163 rb (nI (A.1 0 + 1)) = I2 at hf s163 o163
  have f : zFr [163, 167, 168, 173] gS I I2 := zFr_tr (zFr_wk h3 (by decide) (by decide)) (zFr_wk hf (by decide) (by simp))
  have t167 : I2 167 = I1 167 := hf.1 167 (by decide) (by decide)
  have t168 : I2 168 = I1 168 := hf.1 168 (by decide) (by decide)
  have t173 : I2 173 = I1 173 := hf.1 173 (by decide) (by decide)
  have o : ∀ j, 2 ≤ j → j < 10 → (aAdd A v tw s st).1 j = A.1 j := fun j a b => aAdd_o h8 (by omega) (by omega) (by omega) (by omega)
  have o3 : ∀ j, 30 ≤ j → (aAdd A v tw s st).1 j = A.1 j := fun j a => aAdd_o h8 (by omega) (by omega) (by omega) (by omega)
  refine ⟨⟨⟨by rw [f.2 29 (by decide)]; exact m1.1, m1.2⟩, ⟨by rw [aAdd_0 h8]; omega, by rw [aAdd_0 h8]; exact s163⟩, ⟨by rw [aAdd_0 h8, aAdd_1 h8]; exact ht, by rw [aAdd_1 h8, t167]; exact e167⟩, ⟨by rw [o 2 (by decide) (by decide)]; exact m4.1, by rw [o 2 (by decide) (by decide), f.1 164 (by decide) (by decide)]; exact m4.2⟩, ⟨by rw [o 3 (by decide) (by decide)]; exact m5.1, by rw [o 3 (by decide) (by decide), f.1 165 (by decide) (by decide)]; exact m5.2⟩, ⟨by rw [o 4 (by decide) (by decide)]; exact m6.1, by rw [o 4 (by decide) (by decide), f.1 166 (by decide) (by decide)]; exact m6.2⟩, ⟨by rw [o 5 (by decide) (by decide)]; exact m7.1, by rw [o 5 (by decide) (by decide), f.1 172 (by decide) (by decide)]; exact m7.2⟩, ⟨by rw [o 6 (by decide) (by decide)]; exact m8.1, by rw [o 6 (by decide) (by decide), f.1 171 (by decide) (by decide)]; exact m8.2⟩, fun k hk => ?_, ⟨by rw [f.2 30 (by decide)]; exact m10.1, by rw [f.2 31 (by decide)]; exact m10.2.1, ?_, ?_⟩, fun i hi => ?_⟩, pS_fr h1 hf (by decide) (by decide) (by decide) (by decide) (by decide) (by decide) rfl, by rw [hf.2 4 (by simp)]; exact h2, by rw [f.2 5 (by decide)], fun a j p q => ?_, fun x hx => ?_, fun a j p q => ?_⟩
  · rw [aAdd_0 h8] at hk
    rw [t168, t173]
    by_cases ek : k = A.1 0
    · subst ek
      rw [aAdd_s h8, aAdd_t h8, aAdd_n, if_pos rfl]
      exact ⟨hs, e168, hst, e173, h7⟩
    · rw [aAdd_o h8 (j := 10 + k) (by omega) (by omega) (by omega) (by omega), aAdd_o h8 (j := 20 + k) (by omega) (by omega) (by omega) (by omega), aAdd_n, if_neg ek, (h5 (8 * rb + k) (by omega)).1, (h5 (8 * rb + k) (by omega)).2, h6 174 (8 * rb + k) (fun z => absurd z.1 (by decide)) (fun z => by have := z.2; omega)]
      exact m9 k (by omega)
  · rw [f.2 32 (by decide), o 3 (by decide) (by decide), o3 _ (by omega)]; exact m10.2.2.1
  · rw [o 3 (by decide) (by decide), o 4 (by decide) (by decide), o3 _ (by omega)]; exact m10.2.2.2
  · rw [o 3 (by decide) (by decide), hns] at hi
    exact absurd hi (Nat.not_lt_zero i)
  · by_cases a163 : a = 163
    · subst a163
      rw [o163 j (fun z => q (Or.inl ⟨by decide, z⟩)), h3.1 163 (by decide) (by decide)]
    · rw [hf.1 a (by simp; exact a163) p]
      by_cases a167 : a = 167
      · subst a167
        exact h4 j (fun z => q (Or.inl ⟨by decide, z⟩))
      · by_cases a168 : a = 168
        · subst a168
          exact (h5 j (fun z => q (Or.inr (Or.inl ⟨by decide, by omega, by omega⟩)))).1
        · by_cases a173 : a = 173
          · subst a173
            exact (h5 j (fun z => q (Or.inr (Or.inl ⟨by decide, by omega, by omega⟩)))).2
          · rw [h3.1 a (by simp; omega) p]
  · exact f.2 x (fun z => hx ((by decide : ∀ y ∈ gS, y ∈ iL) x z))
  · exact h6 a j p (fun z => q ⟨z.1, by omega, by omega⟩)
noncomputable def aOne (T : Nat → Int32) (n e : Nat) (A : Ai) : Ai :=
  aAdd A (tV T n e) (@ite _ (tK T n (tE T n e) = 257) (Classical.propDecidable _) (A.1 1 ||| 2 ^ A.1 0) (A.1 1))
    (@ite _ (tK T n (skF T n 257 (tE T n e)) = 258) (Classical.propDecidable _) 255 (255 - 2 ^ A.1 0))
    (@ite _ (tK T n (skF T n 258 (skF T n 257 (tE T n e))) = 259) (Classical.propDecidable _) 1 0)
theorem sp_X12_readOne {d : Nat} {T : Nat → Int32} {n rb e : Nat} {I : zI} {L : zL} {P : zP} {A : Ai} (hP : zPk P) (hM : iM rb I L A) (hp : pS T n I L e) (h4 : I 160 4 = 0) (h8 : A.1 0 < 8) (hns : A.1 3 = 0) (hd : 3 ≤ d) {K : zI → zL → zP → Prop}
    (k1 : tK T n e ≠ 273 → K (pFt I (mis T n e) (tA T n e)) L P) (k2 : tK T n e = 273 → aNm A (tV T n e) ≠ none → K (pFt I 3 (tA T n e)) L P)
    (k3 : tK T n e = 273 → aNm A (tV T n e) = none → ∀ I' L', iM rb I' L' (aOne T n e A) → pS T n I' L' (skF T n 259 (skF T n 258 (skF T n 257 (tE T n e)))) → I' 160 4 = 0 → I' 160 5 = I 160 5 → iFr rb I L I' L' → K I' L' P) : zMv zm_X12_readOne d [.ref 160] I L P K := by
  obtain ⟨d, rfl⟩ : ∃ e, d = e + 1 := ⟨d - 1, by omega⟩
  obtain ⟨eR, eRp, hMR⟩ := iM_R hM
  have hr : rb < 2 := hM.1.2
  have h29 : I 160 29 = nI rb := hM.1.1
  have h163 : I 163 rb = nI (A.1 0) := hM.2.1.2
  have h167 : I 167 rb = nI (A.1 1) := hM.2.2.1.2
  have k273 := (pS_k hp).2.2.1
  have pw : A.1 1 < 2 ^ (A.1 0 + 1) := by have := hM.2.2.1.1; rw [Nat.pow_succ]; omega
  have pw2 : 2 ^ A.1 0 < 2 ^ (A.1 0 + 1) := by have := pw0 (A.1 0); rw [Nat.pow_succ]; omega
  have p31 : (2 : Nat) ^ A.1 0 ≤ 2 ^ 7 := Nat.pow_le_pow_right (by decide) (by omega)
  have eh : hR T n e I L = @ite _ (tK T n e = 273) (Classical.propDecidable _) (aNm A (tV T n e)) none := by
    unfold hR
    rw [iM_nm hM]
  have ei : ((8 : Int32) * (I 160 29)) + (I 163 (I 160 29).toNatClampNeg) = nI (8 * rb + A.1 0) := by rw [h29, nI_cl (by omega), h163, show (8 : Int32) = nI 8 from rfl, pk_mul, nI_add]
  have bad : ∀ k q (Q' : Prop), k ≠ 0 → k < 100 → ¬ bP (pFt I k q 160 4 = 0) = 0 → Q' := by
    intro k q Q' a b z
    rw [bP_n, (pFt_v I k q).1, nI_zero (by omega)] at z
    exact absurd z a
  have m := mis_nz T n e
  have st : ∀ (b : Prop), nI (@ite _ b (Classical.propDecidable _) 1 0) = bP b := by
    intro b
    by_cases z : b
    · rw [if_pos z, bP_t z]; rfl
    · rw [if_neg z, bP_f z]; rfl
  refine g_X12_readOne hP ⟨by rw [h29]; exact nx_in hr (by decide), fun q => ?_, fun q => ?_⟩
  · rw [k273] at q
    rw [if_pos q] at eh
    refine sp_X12_here hP hMR hp ⟨fun q2 => ⟨hP, fun _ => ⟨by rw [ei]; exact nx_in (by omega) (by decide), fun L1 e1 => ?_⟩, fun z => absurd h4 (bP_0.mp z)⟩, fun q2 => ?_⟩
    · rw [eh] at q2
      have hnone : aNm A (tV T n e) = none := by
        cases ho : aNm A (tV T n e) with
        | none => rfl
        | some k =>
          rw [ho] at q2
          have : k < A.1 0 := by have := nfD_lt ho; omega
          exact absurd q2 (nn0 (by omega))
      have k3 := k3 q hnone
      rw [ei, nI_cl (by omega), hp.2.2.2.2.1 (by omega) (by omega)] at e1
      have l10 : L1 160 10 = L 160 10 := by rw [e1, zuL_ne (by decide)]
      have hp1 : pS T n I L1 e := pS_fr hp (zFr_rf [] [] I) (by decide) (by decide) (by decide) (by decide) (by decide) (by decide) l10
      refine pS_go hP hp1 (by omega) (fun I2 L2 f1 f2 f3 => ?_)
      have ho : oS T n rb (A.1 0) I L (tV T n e) I2 L2 (tE T n e) := by
        refine ⟨f3, by rw [f1.2 4 (by decide)]; exact h4, zFr_wk f1 (by simp) (by decide), fun j _ => by rw [f1.1 167 (by simp) (by decide)], fun j _ => by rw [f1.1 168 (by simp) (by decide), f1.1 173 (by simp) (by decide)]; exact ⟨rfl, rfl⟩, fun a j p1 p2 => ?_, ?_⟩
        · rw [f2 a j p1, e1]
          by_cases ha : a = 174
          · subst ha; rw [zuL_o (fun z => p2 ⟨rfl, z⟩)]
          · rw [zuL_ne ha]
        · rw [f2 174 _ (fun z => absurd z.1 (by decide)), e1, zuL_v]
      have go : ∀ I3 L3 e3 tw, oS T n rb (A.1 0) I L (tV T n e) I3 L3 e3 → e3 = skF T n 257 (tE T n e) → I3 167 rb = nI tw → tw = (@ite _ (tK T n (tE T n e) = 257) (Classical.propDecidable _) (A.1 1 ||| 2 ^ A.1 0) (A.1 1)) → tw < 2 ^ (A.1 0 + 1) →
          gw_X12_readOne (d + 1) (fun v I' L' P' nx' => nx' = 205 ∧ v = none ∧ K I' L' P') 104 [some (.ref 160), some (.int (((8 : Int32) * (I 160 29)) + (I 163 (I 160 29).toNatClampNeg)))] [] I3 L3 P := by
        intro I3 L3 e3 tw h3 ee et ew hw
        rw [ei]
        refine lp_X12_readOne_104 hP hr h8 h29 h163 (by omega) h3 (fun I4 L4 g1 g2 g3 g4 => qv ?_)
        rw [ee] at g1 g3 g4
        obtain ⟨z1, z2, z3, z4, z5⟩ := iM_add (st := @ite _ (tK T n (skF T n 258 (skF T n 257 (tE T n e))) = 259) (Classical.propDecidable _) 1 0) hM h8 hns g1 hw (s := @ite _ (tK T n (skF T n 257 (tE T n e)) = 258) (Classical.propDecidable _) 255 (255 - 2 ^ A.1 0)) (by split <;> omega) (by split <;> omega) (by rw [g2]; exact et) g3 (by rw [g4, st])
        rw [ew] at z1
        exact k3 _ L4 z1 z2 z3 z4 z5
      refine sp_X12_flag (i := 1) hP ho.2.1 ho.1 (by decide) rfl (by omega) (fun z => ⟨fun _ => ?_, fun y => absurd rfl y⟩) (fun z I3 L3 g1 g2 g3 => ⟨fun y => absurd y (by decide), fun _ => ⟨hP, ?_, fun I4 e4 => ?_⟩⟩)
      · exact go I2 L2 _ (A.1 1) ho (by unfold skF; rw [if_neg z]) (by rw [f1.1 167 (by simp) (by decide)]; exact h167) (by rw [if_neg (show ¬ tK T n (tE T n e) = 257 from z)]) pw
      · rw [g1.2 29 (by decide), f1.2 29 (by decide), h29]; exact nx_in hr (by decide)
      · have h3 := oS_go ho g1 g2 g3
        rw [g1.2 29 (by decide), f1.2 29 (by decide), h29, nI_cl (by omega), g1.1 163 (by simp) (by decide), f1.1 163 (by simp) (by decide), h163, g1.1 167 (by simp) (by decide), f1.1 167 (by simp) (by decide), h167, nx_set (by omega)] at e4
        have h5 := oS_167 (x := nI (A.1 1 ||| 2 ^ A.1 0)) h3
        rw [← e4] at h5
        exact go I4 L3 _ (A.1 1 ||| 2 ^ A.1 0) h5 (by unfold skF; rw [if_pos z]) (by rw [e4, zuI_v]) (by rw [if_pos (show tK T n (tE T n e) = 257 from z)]) (Nat.or_lt_two_pow pw pw2)
    · rw [eh] at q2
      have hsome : aNm A (tV T n e) ≠ none := fun z => by rw [z] at q2; exact q2 (by decide)
      rw [hp.2.1]
      exact sp_X12_fails (k := 3) hP h4 ⟨hP, fun z => bad _ _ _ (by decide) (by decide) z, fun _ => qv (k2 q hsome)⟩
  · rw [k273] at q
    exact sp_X12_misplaced hP h4 hp (by omega) ⟨hP, fun z => bad _ _ _ m.1 m.2 z, fun _ => qv (k1 q)⟩
