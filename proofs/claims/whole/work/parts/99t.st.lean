/-! ===== the model: the new bank ===== -/
section BN
variable {I1 J I2 : zI} {L1 L2 : zL} {rb : Nat} {A : Ai}
/-- the bank rb is told, and all begins -/
theorem new_v (hr : rb < 2) (mA : iM rb J L2 A) (z : zFr [180, 199] [38, 39, 40, 46] (zuI (zuI J 160 28 (nI rb)) 160 59 0) I2) :
    (∀ a, a ≠ 160 → a ≠ 180 → a ≠ 199 → I2 a = J a) ∧ (∀ s, s ≠ 28 → s ≠ 38 → s ≠ 39 → s ≠ 40 → s ≠ 46 → s ≠ 59 → I2 160 s = J 160 s) ∧ I2 160 59 = 0 ∧ vB I2 = rb ∧ I2 160 28 = nI rb ∧ vNp I2 = A.1 0 ∧ vTw I2 = A.1 1 ∧ vNs I2 = A.1 3 := by
  have c : ∀ a, a ≠ 160 → a ≠ 180 → a ≠ 199 → I2 a = J a := fun a h0 h1 h2 => by rw [z.1 a (by simp only [List.mem_cons, List.not_mem_nil, or_false]; omega) h0, zuI_ne h0, zuI_ne h0]
  have s : ∀ s, s ≠ 28 → s ≠ 38 → s ≠ 39 → s ≠ 40 → s ≠ 46 → s ≠ 59 → I2 160 s = J 160 s := fun s h1 h2 h3 h4 h5 h6 => by rw [z.2 s (by simp only [List.mem_cons, List.not_mem_nil, or_false]; omega), zuI_o h6, zuI_o h1]
  have h28 : I2 160 28 = nI rb := by rw [z.2 28 (by decide), zuI_o (by decide), zuI_v]
  have hb : vB I2 = rb := (congrArg Int32.toNatClampNeg h28).trans (nI_cl (by omega))
  refine ⟨c, s, by rw [z.2 59 (by decide), zuI_v], hb, h28, ?_, ?_, ?_⟩
  · show (I2 163 (vB I2)).toNatClampNeg = _
    rw [hb, c 163 (by decide) (by decide) (by decide), mA.2.1.2, nI_cl (by have := mA.2.1.1; omega)]
  · show (I2 167 (vB I2)).toNatClampNeg = _
    have l := mA.2.2.1.1
    have := pw8 mA.2.1.1
    rw [hb, c 167 (by decide) (by decide) (by decide), mA.2.2.1.2, nI_cl (by omega)]
  · show (I2 165 (vB I2)).toNatClampNeg = _
    rw [hb, c 165 (by decide) (by decide) (by decide), mA.2.2.2.2.1.2, nI_cl (by have := mA.2.2.2.2.1.1; omega)]
theorem new_MSc (hr : rb < 2) (mA : iM rb J L2 A) (z : zFr [180, 199] [38, 39, 40, 46] (zuI (zuI J 160 28 (nI rb)) 160 59 0) I2) (h180 : ∀ w, w < 256 → I2 180 w = bP (w < 2 ^ A.1 0)) (h38 : I2 160 38 = 0) (h40 : I2 160 40 = 0) (h46 : I2 160 46 = 0) (h181 : ∀ j, j < 2048 → J 181 j = 0 ∨ J 181 j = 1) :
    MSc I2 ∧ MCb I2 ∧ ∀ i, i < A.1 3 → vSy I2 i = cMp (A.2.2 i) := by
  obtain ⟨c, s, h59, hb, h28, hnp, htw, hns⟩ := new_v hr mA z
  obtain ⟨m1, m2, m3, m4, m5, m6, m7, m8, m9, m10, m11⟩ := mA
  have p8 := pw8 m2.1
  have sf : ∀ i, i < A.1 3 → vSf I2 i = 700 * rb + A.1 (30 + i) := fun i hi => by
    have := m11 i hi
    unfold vSf
    rw [hb, c 169 (by decide) (by decide) (by decide), this.2.2.1, nI_cl (by omega)]
  have sl : ∀ i, i < A.1 3 → vSl I2 i = (A.2.2 i).length := fun i hi => by
    have := m11 i hi
    unfold vSl
    rw [sf i hi, hb, c 170 (by decide) (by decide) (by decide), this.2.2.2.1, nI_cl (by omega)]
    omega
  have sy : ∀ i, i < A.1 3 → vSy I2 i = cMp (A.2.2 i) := fun i hi => by
    unfold vSy
    rw [sf i hi, sl i hi, vCd_c (c 175 (by decide) (by decide) (by decide)) (c 176 (by decide) (by decide) (by decide))]
    exact (m11 i hi).2.2.2.2.1
  have eN : vN I2 = 2 ^ A.1 0 := by unfold vN; rw [hnp]
  have hMB : MB I2 := ⟨⟨by rw [hb]; exact hr, by rw [hb]; exact h28⟩, by rw [hnp]; exact m2.1, by rw [hb, hnp, c 163 (by decide) (by decide) (by decide)]; exact m2.2⟩
  have vw : vNw I2 = 0 := by unfold vNw; rw [h38]; decide
  have vg : vGn I2 = 0 := by unfold vGn; rw [h40]; decide
  refine ⟨⟨⟨hMB, fun p hp => ?_, ⟨by rw [vw]; omega, by rw [vw, h38]; rfl, fun k hk => absurd hk (by rw [vw]; omega)⟩⟩, ⟨by rw [htw, eN]; exact m3.1, by rw [htw, hb, c 167 (by decide) (by decide) (by decide)]; exact m3.2⟩, ⟨by rw [hns]; exact m5.1, by rw [hns, hb, c 165 (by decide) (by decide) (by decide)]; exact m5.2, fun i hi => ?_⟩, ⟨by rw [vg]; omega, by rw [vg, h40]; rfl⟩, ⟨fun w hw => by rw [h180 w hw]; exact bP_or _, fun j hj => by rw [c 181 (by decide) (by decide) (by decide)]; exact h181 j hj⟩, Or.inl h46, ?_⟩, fun i hi => ?_, sy⟩
  · rw [hnp] at hp
    rw [hb, c 168 (by decide) (by decide) (by decide)]
    exact ⟨_, (m9 p hp).1, (m9 p hp).2.1⟩
  · rw [hns] at hi
    have q := m11 i hi
    obtain ⟨u, hu, hq⟩ := q.2.2.2.2.2
    rw [sy i hi, sf i hi, sl i hi, hb, hnp, c 169 (by decide) (by decide) (by decide), c 170 (by decide) (by decide) (by decide)]
    refine ⟨q.2.2.1, ?_, by omega, ?_⟩
    · rw [q.2.2.2.1, q.1]
      congr 1
      omega
    · obtain ⟨y1, y2⟩ := hq.2.1 0 (by decide)
      exact ⟨y1, y2⟩
  · unfold vPoss
    rw [htw, h180 _ (by omega), bP_t m3.1]
    decide
  · rw [hns] at hi
    have q := m11 i hi
    rw [sf i hi, sl i hi, hb]
    omega
end BN
