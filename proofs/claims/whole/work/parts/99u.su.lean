/-! ===== class and model: island ===== -/
section BU
variable {d : Nat} {I I1 J I2 : zI} {L L1 L2 : zL} {P P1 : zP} {t u st : Nat} {b : Nat → Nat} {cd : Nat → Cd} {A : Ai}
theorem Rl_new {rb : Nat} (h : Rl I I L P t st b cd) (hi : il u) (hr : rb < 2) (hP1 : zPk P1) (p2 : P1 0 2 = some u) (p3 : P1 0 3 = some (16 - u)) (p73 : P1 73 1 = some u)
    (em : eM I I1) (hw : wdR L1) (h11 : I1 1 1 = 0) (h170 : I1 17 0 = 0) (h171 : I1 17 1 = -1) (cA : cI u I1 L1 A) (x5 : I1 u 5 = nI (A.1 4)) (s1 : cS 73 85 I1 (aw (A.1 0))) (s4 : I1 73 4 = 0) (s5 : I1 73 5 = 0) (s6 : I1 73 6 = 0) (sg : ∀ p w, p < A.1 0 → w < 2 ^ A.1 0 → I1 (76 + p) w = nI (w &&& (A.1 (10 + p) % 2 ^ A.1 0))) (k89 : ∀ k, k < 3 → I1 89 k = 0) (k90 : I1 90 5 = 0) (k906 : I1 90 6 = I 90 6) (k96 : I1 96 4 = 0) (hz : I1 10 0 = 0 ∧ I1 16 0 = 0)
    (ho : oFr rb I1 L1 J L2) (mA : iM rb J L2 A) (j4 : J 160 4 = 0) (j5 : J 160 5 = -1) (z : zFr [180, 199] [38, 39, 40, 46] (zuI (zuI J 160 28 (nI rb)) 160 59 0) I2) (h199 : ∀ k, k < 4 → I2 199 k = -1) (h180 : ∀ w, w < 256 → I2 180 w = bP (w < 2 ^ A.1 0)) (h38 : I2 160 38 = 0) (h39 : I2 160 39 = 0) (h40 : I2 160 40 = 0) (h46 : I2 160 46 = 0) : Rn I2 L2 P1 := by
  have hil := hi
  unfold il at hil
  have j181 : J 181 = I 181 := by rw [oFr_cell ho (by decide) (by decide), em 181 (by decide)]
  obtain ⟨S2, C2, sy⟩ := new_MSc hr mA z h180 h38 h40 h46 (by rw [j181]; exact h.2.1.1.2.2.2.2.1.2)
  obtain ⟨c, s, h59, hb, h28, hnp, htw, hns⟩ := new_v hr mA z
  have lo : ∀ a, a < 160 → I2 a = I1 a := fun a ha => by rw [c a (by omega) (by omega) (by omega), oFr_cell ho (by omega) (by simp only [List.mem_cons, List.not_mem_nil, or_false]; omega)]
  obtain ⟨m1, m2, m3, m4, m5, m6, m7, m8, m9, m10, m11⟩ := mA
  have p8 := pw8 m2.1
  have eN : vN I2 = 2 ^ A.1 0 := by unfold vN; rw [hnp]
  have see : ∀ p, p < A.1 0 → vSee I2 p = A.1 (10 + p) % 2 ^ A.1 0 := fun p hp => by
    unfold vSee
    rw [hb, eN, c 168 (by decide) (by decide) (by decide), (m9 p hp).2.1, nI_cl (by have := (m9 p hp).1; omega)]
  have vw : vNw I2 = 0 := by unfold vNw; rw [h38]; decide
  have vg : vGn I2 = 0 := by unfold vGn; rw [h40]; decide
  have ng : vNg I2 = 0 := by unfold vNg; rw [h59]; decide
  have e2 : I2 160 2 = 0 := by rw [s 2 (by decide) (by decide) (by decide) (by decide) (by decide) (by decide)]; exact ho.2.2.2
  have vt : vTp I2 = 0 := by unfold vTp; rw [e2]; decide
  have e60 : I2 160 60 = I 160 60 := by rw [s 60 (by decide) (by decide) (by decide) (by decide) (by decide) (by decide), ho.2.1 60 (by decide) (by decide) (by decide), em 160 (by decide)]
  have all : lP (vPoss I2) (vN I2) = aw (A.1 0) := by
    rw [eN]
    exact lP_all _ (fun w hw => by unfold vPoss; rw [h180 w (by omega), bP_t hw]; decide)
  have eL : ∀ x, x ≠ 160 → x ≠ 174 → L2 x = L1 x := fun x x1 x2 => by funext j; exact ho.2.2.1 x j (by omega) (by omega)
  have q := cA
  obtain ⟨q0, q1, ⟨ss, q2a, q2b, q2c⟩, q3, q4, q5, q6, qk, qc, qs⟩ := q
  have hH : iH u (A.1 0) I2 := ⟨hi, q0.1, by rw [lo u (by omega)]; exact q0.2⟩
  refine ⟨u, ss, fun i => A.1 (30 + i), A.2.2, ⟨hP1, p2, p3⟩, ⟨S2, C2, ⟨by rw [vt]; omega, by rw [vt, e2]; rfl, fun k => ?_⟩, ⟨by rw [ng]; omega, by rw [ng, h59]; rfl, fun k hk => absurd hk (by rw [ng]; omega)⟩, by rw [e60]; exact h.2.1.2.2.2.2⟩, ⟨⟨by rw [hnp]; exact hH, by rw [htw, lo u (by omega)]; exact q1.2, ⟨by rw [lo u (by omega)]; exact q2b, by omega, ?_⟩, fun p hp => ?_, fun p hp => ?_, ?_, fun i hi' => ?_⟩, ?_, fun k hk => ?_⟩, ⟨by rw [vt]; omega, by rw [vt, lo 1 (by decide)]; exact h11, fun k hk => absurd hk (by rw [vt]; omega)⟩, ?_, ⟨fun p w => w &&& (A.1 (10 + p) % 2 ^ A.1 0), ⟨⟨Or.inl ⟨rfl, rfl, rfl⟩, ?_, lP_nd _ _, fun w hw => (lP_mem.mp hw).1, p73, by rw [hnp]; exact hH, fun p hp w hw => ?_⟩, ?_, ⟨?_, ?_⟩, ?_⟩, ?_, ?_, ⟨0, by omega, by rw [h39]; rfl⟩⟩, fun k hk => ?_, ⟨⟨by rw [ng]; omega, ?_⟩, ?_, fun k hk => absurd hk (by rw [ng]; omega)⟩, fun y => absurd (by rw [lo 96 (by decide)]; exact k96) y, fun i hi' => ?_, by rw [lo 10 (by decide)]; exact hz.1, by rw [lo 16 (by decide)]; exact hz.2⟩
  · rw [c 161 (by decide) (by decide) (by decide), oFr_cell ho (by decide) (by decide), em 161 (by decide)]
    exact h.2.1.2.2.1.2.2 k
  · unfold vOwn
    rw [lo u (by omega), q6.2.1, hb, c 171 (by decide) (by decide) (by decide), m8.2]
  · rw [hnp] at hp
    unfold vSty
    rw [q2c p hp, hb, c 173 (by decide) (by decide) (by decide), (m9 p hp).2.2.2.1, nI_zero (by have := (m9 p hp).2.2.1; omega)]
  · rw [hnp] at hp
    rw [see p hp, lo (u + 2) (by omega)]
    exact (qk p hp).2.2.1
  · rw [hnp, hns]
    refine ⟨by rw [lo u (by omega)]; exact q4.2, q4.1, by rw [lo (u + 3) (by omega)]; exact qc.2.1, (show A.1 (30 + A.1 3) ≤ 600 by omega), fun i hi' => ?_⟩
    obtain ⟨y1, y2, y3, y4, y5⟩ := qs i hi'
    obtain ⟨uu, -, hq⟩ := (m11 i hi').2.2.2.2.2
    rw [lo (u + 5) (by omega)]
    exact ⟨y3, y4, y1, y2, cT_c y5 (fun j _ => by rw [lo (u + 3 + 1) (by omega)]), hq.2.2, hq.2.1 0 (by decide)⟩
  · rw [hns] at hi'
    exact (sy i hi').symm
  · rw [hb, c 166 (by decide) (by decide) (by decide), m6.2, lo u (by omega)]; exact x5
  · rw [hnp] at hk
    rw [hb, eL (u + 1) (by omega) (by omega), (qk k hk).2.1, (m9 k hk).2.2.2.2]
  · rw [lo 17 (by decide), s 4 (by decide) (by decide) (by decide) (by decide) (by decide) (by decide), s 5 (by decide) (by decide) (by decide) (by decide) (by decide) (by decide), j4, j5]
    exact ⟨h170, h171⟩
  · rw [all]; exact cS_c s1 (by rw [lo 73 (by decide)]) (lo 85 (by decide))
  · rw [hnp] at hp
    have hw' := (lP_mem.mp hw).1
    rw [eN] at hw'
    rw [lo _ (by omega)]
    exact ⟨Nat.lt_of_le_of_lt Nat.and_le_left (by omega), sg p w hp hw'⟩
  · intro p hp a e ha he pa pe
    rw [hnp] at hp
    unfold vLike
    rw [see p hp, vw]
    show (e &&& _ = a &&& _) ↔ _
    rw [eq_comm, and_x]
    exact ⟨fun y => ⟨y, fun k hk => absurd hk (Nat.not_lt_zero k)⟩, fun y => y.1⟩
  · rw [lo 73 (by decide), s4, vg]; rfl
  · rw [vg]; omega
  · exact S2.2.2.2.2.2.2
  · rw [lo 73 (by decide), s5, h39]
  · rw [lo 73 (by decide), s6, h38]
  · rw [lo 89 (by decide), k89 k hk, h199 k (by omega)]
    have n : ¬ (0 : Int32) ≤ -1 := by decide
    exact ⟨(bP_f n).symm, fun y => absurd y n⟩
  · rw [ng, lo 90 (by decide), k90]; rfl
  · rw [lo 90 (by decide), k906, e60]; exact h.2.2.2.2.2.2.2.1.2.1
  · rw [eL 19 (by decide) (by decide)]; exact hw i hi'
theorem q_island (h : Rl I I L P t st b cd) (hd : 80 ≤ d) : zMi zm_X11_island d [.ref 0] I L P (fun r I1 L1 P1 => zPk P1 ∧ zMi zm_X12_island d [.ref 160] I1 L1 P1 (q2 r)) := by
  have hP := h.1.1
  have hS := h.2.1.1
  have ht := (Rl_t0 h).2.2
  have hil := ht
  unfold il at hil
  have hu : il (16 - t) := by unfold il; omega
  have h16 : 16 - (16 - t) = t := by omega
  have w := h.2.2.2.2.2.2.2.2.2.2
  have w0 : I (16 - t + 5) 0 = 0 := by
    rcases hil with rfl | rfl
    · exact w.2
    · exact w.1
  refine sp_X11_island (T := vTt I) (n := vTp I) (t := 16 - t) hP h.2.2.2.1 h.2.2.2.2.2.2.2.2.2.1 hu w0 (by rw [h16]; exact h.1.2.1) h.1.2.2 (by omega) (fun q hq I1 L1 hP1 f1 l1 a1 a2 a3 w1 => ⟨hP1, ?_⟩) (fun A hq I1 L1 P1 hP1 fp p2 p3 p73 f1 l1 a1 a2 a3 cA x5 s1 s4 s5 s6 sg k89 k90 k906 k96 w1 => ⟨hP1, ?_⟩)
  · have em : eM I I1 := fun a ha => f1 a (by omega)
    obtain ⟨r1, r2, r3⟩ := wt_R h em
    refine sp_X12_island hP1 r1.1.1 r3 (by omega) (fun T' n' hx => ⟨fun q' hq' hk I2 L2 o2 x4 x5 => ?_, fun A hq' => ?_⟩)
    · have en : n' = vTp I := by rw [hx.1]; unfold vTp; rw [em 160 (by decide)]
      subst en
      rw [rIs_cg (T' := vTt I) (fun k hk => by rw [hx.2 k hk]; unfold vTt; rw [em 161 (by decide)]), hq] at hq'
      have : q = q' := Sum.inl.inj hq'
      subst this
      exact ⟨rfl, hP1, Rn_i (Rl_bf h hP1 f1 l1 a1 o2 ⟨by rw [a2, x4], by rw [a3, x5]⟩ w1)⟩
    · have en : n' = vTp I := by rw [hx.1]; unfold vTp; rw [em 160 (by decide)]
      subst en
      rw [rIs_cg (T' := vTt I) (fun k hk => by rw [hx.2 k hk]; unfold vTt; rw [em 161 (by decide)]), hq] at hq'
      cases hq'
  · have em : eM I I1 := fun a ha => f1 a (by omega)
    obtain ⟨r1, r2, r3⟩ := wt_R h em
    refine sp_X12_island hP1 r1.1.1 r3 (by omega) (fun T' n' hx => ⟨fun q' hq' => ?_, fun A' hq' J L2 mA o2 x4 x5' I2 z y1 y2 y3 y4 y5 y6 => ?_⟩)
    · have en : n' = vTp I := by rw [hx.1]; unfold vTp; rw [em 160 (by decide)]
      subst en
      rw [rIs_cg (T' := vTt I) (fun k hk => by rw [hx.2 k hk]; unfold vTt; rw [em 161 (by decide)]), hq] at hq'
      cases hq'
    · have en : n' = vTp I := by rw [hx.1]; unfold vTp; rw [em 160 (by decide)]
      subst en
      rw [rIs_cg (T' := vTt I) (fun k hk => by rw [hx.2 k hk]; unfold vTt; rw [em 161 (by decide)]), hq] at hq'
      have : A = A' := Sum.inr.inj hq'
      subst this
      have ww : I1 10 0 = 0 ∧ I1 16 0 = 0 := by
        rcases hil with rfl | rfl
        · exact ⟨by rw [f1 10 (by decide)]; exact w.1, w1⟩
        · exact ⟨w1, by rw [f1 16 (by decide)]; exact w.2⟩
      refine ⟨rfl, hP1, Rl_new h hu (by have := r1.1.1.1.1; omega) hP1 p2 p3 p73 em (fun i hi' => by rw [l1 19 (by decide) (by omega)]; exact h.2.2.2.2.2.2.2.2.2.1 i hi') a1 a2 a3 cA x5 s1 s4 s5 s6 sg k89 k90 k906 k96 ww o2 mA x4 x5' z y1 y2 y3 y4 y5 y6⟩
end BU
