/-! ===== class and model: both new ===== -/
theorem Rn_new {I : zI} {L : zL} {P : zP} (hP : zPk P) (p2 : P 0 2 = some 5) (p3 : P 0 3 = some 11) (p73 : P 73 1 = some 5)
    (h5 : ∀ k, k < 8 → I 5 k = 0) (h8 : I 8 1 = 0) (h1 : I 1 1 = 0) (h170 : I 17 0 = 0) (h171 : I 17 1 = -1) (s1 : cS 73 85 I [0]) (s4 : I 73 4 = 0) (s5 : I 73 5 = 0) (s6 : I 73 6 = 0) (k89 : ∀ k, k < 3 → I 89 k = 0) (k90 : I 90 5 = 0) (k906 : I 90 6 = 0) (k96 : I 96 4 = 0) (hw : wdI I L)
    (m28 : I 160 28 = 0) (m163 : I 163 0 = 0) (m165 : I 165 0 = 0) (m166 : I 166 0 = 0) (m167 : I 167 0 = 0) (m171 : I 171 0 = 0) (m180 : ∀ w, w < 256 → I 180 w = bP (w < 1)) (m181 : ∀ j, j < 2048 → I 181 j = 0) (m2 : I 160 2 = 0) (m4 : I 160 4 = 0) (m5 : I 160 5 = -1) (m38 : I 160 38 = 0) (m39 : I 160 39 = 0) (m40 : I 160 40 = 0) (m46 : I 160 46 = 0) (m59 : I 160 59 = 0) (m60 : I 160 60 = 0) (m199 : ∀ k, k < 3 → I 199 k = -1) (m161 : ∀ k, zBy (I 161 k)) : Rn I L P := by
  have z : (0 : Int32).toNatClampNeg = 0 := by decide
  have hb : vB I = 0 := by unfold vB; rw [m28, z]
  have hnp : vNp I = 0 := by unfold vNp; rw [hb, m163, z]
  have hN : vN I = 1 := by unfold vN; rw [hnp]
  have htw : vTw I = 0 := by unfold vTw; rw [hb, m167, z]
  have hns : vNs I = 0 := by unfold vNs; rw [hb, m165, z]
  have vw : vNw I = 0 := by unfold vNw; rw [m38, z]
  have vg : vGn I = 0 := by unfold vGn; rw [m40, z]
  have ng : vNg I = 0 := by unfold vNg; rw [m59, z]
  have vt : vTp I = 0 := by unfold vTp; rw [m2, z]
  have po0 : vPoss I 0 := by unfold vPoss; rw [m180 0 (by decide), bP_t (by decide)]; decide
  have all : lP (vPoss I) (vN I) = [0] := by
    rw [hN, lP_all 1 (fun w hw => by have : w = 0 := by omega
                                     subst this; exact po0)]
    rfl
  have hMB : MB I := ⟨⟨by rw [hb]; omega, by rw [hb, m28]; rfl⟩, by rw [hnp]; omega, by rw [hb, hnp, m163]; rfl⟩
  have hMS : MSc I := ⟨⟨hMB, fun p hp => absurd hp (by rw [hnp]; omega), ⟨by rw [vw]; omega, by rw [vw, m38]; rfl, fun k hk => absurd hk (by rw [vw]; omega)⟩⟩, ⟨by rw [htw, hN]; omega, by rw [htw, hb, m167]; rfl⟩, ⟨by rw [hns]; omega, by rw [hns, hb, m165]; rfl, fun i hi => absurd hi (by rw [hns]; omega)⟩, ⟨by rw [vg]; omega, by rw [vg, m40]; rfl⟩, ⟨fun w hw' => by rw [m180 w hw']; exact bP_or _, fun j hj => Or.inl (m181 j hj)⟩, Or.inl m46, by rw [htw]; exact po0⟩
  have hH : iH 5 0 I := ⟨Or.inl rfl, by omega, h5 0 (by decide)⟩
  refine ⟨5, 0, fun _ => 0, fun _ => [], ⟨hP, p2, p3⟩, ⟨hMS, fun i hi => absurd hi (by rw [hns]; omega), ⟨by rw [vt]; omega, by rw [vt, m2]; rfl, m161⟩, ⟨by rw [ng]; omega, by rw [ng, m59]; rfl, fun k hk => absurd hk (by rw [ng]; omega)⟩, ⟨0, by omega, m60⟩⟩, ⟨⟨by rw [hnp]; exact hH, by rw [htw, h5 1 (by decide)]; rfl, ⟨h5 2 (by decide), by omega, ?_⟩, fun p hp => absurd hp (by rw [hnp]; omega), fun p hp => absurd hp (by rw [hnp]; omega), ?_, fun i hi => absurd hi (by rw [hns]; omega)⟩, ?_, fun k hk => absurd hk (by rw [hnp]; omega)⟩, ⟨by rw [vt]; omega, by rw [vt, h1]; rfl, fun k hk => absurd hk (by rw [vt]; omega)⟩, ⟨by rw [h170, m4], by rw [h171, m5]⟩, ⟨fun _ w => w, ⟨⟨Or.inl ⟨rfl, rfl, rfl⟩, by rw [all]; exact s1, lP_nd _ _, fun w hw' => (lP_mem.mp hw').1, p73, by rw [hnp]; exact hH, fun p hp => absurd hp (by rw [hnp]; omega)⟩, fun p hp => absurd hp (by rw [hnp]; omega), ⟨by rw [vg, s4]; rfl, by rw [vg]; omega⟩, by rw [htw]; exact po0⟩, by rw [s5, m39], by rw [s6, m38], ⟨0, by omega, by rw [m39]; rfl⟩⟩, fun k hk => ?_, ⟨⟨by rw [ng]; omega, by rw [ng, k90]; rfl⟩, by rw [k906, m60], fun k hk => absurd hk (by rw [ng]; omega)⟩, fun y => absurd k96 y, hw⟩
  · unfold vOwn
    rw [hb, m171, h5 7 (by decide)]
  · rw [hnp, hns]
    exact ⟨h5 4 (by decide), by omega, h8, Nat.zero_le _, fun i hi => absurd hi (Nat.not_lt_zero i)⟩
  · rw [hb, m166]; exact h5 5 (by decide)
  · rw [k89 k hk, m199 k hk]
    have n : ¬ (0 : Int32) ≤ -1 := by decide
    exact ⟨(bP_f n).symm, fun y => absurd y n⟩
