/-! ===== the law's loop ===== -/
theorem lw_sw {bb n i : Nat} {xs : Nat → Int32} {I : zI} {L : zL} {P : zP} {x1 x2 x3 x4 x5 v : Int32} (hx : lwS xs n i x1 x2 x3 x4 x5) (h : Rn I L P) (kk : ∀ I L P, Rn I L P → zT bb n xs 813 [some (.ref 1000002), some (.ref 0), some (.ref 160), some (.int (nI i))] [] I L P 205 205 69841) : zT bb n xs 33 [some (.ref 1000002), some (.ref 0), some (.ref 160), some (.int (nI i))] [.int v] I L P 205 205 69841 := by
  by_cases c0 : v = 0
  · refine tz_tableIn (off := 123) (tgt := 156) dl_33 (by rw [c0]; decide) (by rw [c0]; decide) (by rw [c0]; decide) (by decide) ?_
    exact ca_0 hx h kk
  by_cases c1 : v = 1
  · refine tz_tableIn (off := 186) (tgt := 219) dl_33 (by rw [c1]; decide) (by rw [c1]; decide) (by rw [c1]; decide) (by decide) ?_
    exact ca_1 hx h kk
  by_cases c2 : v = 2
  · refine tz_tableIn (off := 209) (tgt := 242) dl_33 (by rw [c2]; decide) (by rw [c2]; decide) (by rw [c2]; decide) (by decide) ?_
    exact ca_2 hx h kk
  by_cases c3 : v = 3
  · refine tz_tableIn (off := 222) (tgt := 255) dl_33 (by rw [c3]; decide) (by rw [c3]; decide) (by rw [c3]; decide) (by decide) ?_
    exact ca_3 hx h kk
  by_cases c4 : v = 4
  · refine tz_tableIn (off := 245) (tgt := 278) dl_33 (by rw [c4]; decide) (by rw [c4]; decide) (by rw [c4]; decide) (by decide) ?_
    exact ca_4 hx h kk
  by_cases c5 : v = 5
  · refine tz_tableIn (off := 268) (tgt := 301) dl_33 (by rw [c5]; decide) (by rw [c5]; decide) (by rw [c5]; decide) (by decide) ?_
    exact ca_5 hx h kk
  by_cases c6 : v = 6
  · refine tz_tableIn (off := 281) (tgt := 314) dl_33 (by rw [c6]; decide) (by rw [c6]; decide) (by rw [c6]; decide) (by decide) ?_
    exact ca_6 hx h kk
  by_cases c7 : v = 7
  · refine tz_tableIn (off := 304) (tgt := 337) dl_33 (by rw [c7]; decide) (by rw [c7]; decide) (by rw [c7]; decide) (by decide) ?_
    exact ca_7 hx h kk
  by_cases c8 : v = 8
  · refine tz_tableIn (off := 347) (tgt := 380) dl_33 (by rw [c8]; decide) (by rw [c8]; decide) (by rw [c8]; decide) (by decide) ?_
    exact ca_8 hx h kk
  by_cases c9 : v = 9
  · refine tz_tableIn (off := 370) (tgt := 403) dl_33 (by rw [c9]; decide) (by rw [c9]; decide) (by rw [c9]; decide) (by decide) ?_
    exact ca_9 hx h kk
  by_cases c10 : v = 10
  · refine tz_tableIn (off := 383) (tgt := 416) dl_33 (by rw [c10]; decide) (by rw [c10]; decide) (by rw [c10]; decide) (by decide) ?_
    exact ca_10 hx h kk
  by_cases c11 : v = 11
  · refine tz_tableIn (off := 396) (tgt := 429) dl_33 (by rw [c11]; decide) (by rw [c11]; decide) (by rw [c11]; decide) (by decide) ?_
    exact ca_11 hx h kk
  by_cases c12 : v = 12
  · refine tz_tableIn (off := 409) (tgt := 442) dl_33 (by rw [c12]; decide) (by rw [c12]; decide) (by rw [c12]; decide) (by decide) ?_
    exact ca_12 hx h kk
  by_cases c13 : v = 13
  · refine tz_tableIn (off := 422) (tgt := 455) dl_33 (by rw [c13]; decide) (by rw [c13]; decide) (by rw [c13]; decide) (by decide) ?_
    exact ca_13 hx h kk
  by_cases c14 : v = 14
  · refine tz_tableIn (off := 445) (tgt := 478) dl_33 (by rw [c14]; decide) (by rw [c14]; decide) (by rw [c14]; decide) (by decide) ?_
    exact ca_14 hx h kk
  by_cases c15 : v = 15
  · refine tz_tableIn (off := 468) (tgt := 501) dl_33 (by rw [c15]; decide) (by rw [c15]; decide) (by rw [c15]; decide) (by decide) ?_
    exact ca_15 hx h kk
  by_cases c16 : v = 16
  · refine tz_tableIn (off := 481) (tgt := 514) dl_33 (by rw [c16]; decide) (by rw [c16]; decide) (by rw [c16]; decide) (by decide) ?_
    exact ca_16 hx h kk
  by_cases c17 : v = 17
  · refine tz_tableIn (off := 494) (tgt := 527) dl_33 (by rw [c17]; decide) (by rw [c17]; decide) (by rw [c17]; decide) (by decide) ?_
    exact ca_17 hx h kk
  by_cases c18 : v = 18
  · refine tz_tableIn (off := 517) (tgt := 550) dl_33 (by rw [c18]; decide) (by rw [c18]; decide) (by rw [c18]; decide) (by decide) ?_
    exact ca_18 hx h kk
  by_cases c19 : v = 19
  · refine tz_tableIn (off := 550) (tgt := 583) dl_33 (by rw [c19]; decide) (by rw [c19]; decide) (by rw [c19]; decide) (by decide) ?_
    exact ca_19 hx h kk
  by_cases c20 : v = 20
  · refine tz_tableIn (off := 609) (tgt := 642) dl_33 (by rw [c20]; decide) (by rw [c20]; decide) (by rw [c20]; decide) (by decide) ?_
    exact ca_20 hx h kk
  by_cases c21 : v = 21
  · refine tz_tableIn (off := 632) (tgt := 665) dl_33 (by rw [c21]; decide) (by rw [c21]; decide) (by rw [c21]; decide) (by decide) ?_
    exact ca_21 hx h kk
  by_cases c22 : v = 22
  · refine tz_tableIn (off := 655) (tgt := 688) dl_33 (by rw [c22]; decide) (by rw [c22]; decide) (by rw [c22]; decide) (by decide) ?_
    exact ca_22 hx h kk
  by_cases c23 : v = 23
  · refine tz_tableIn (off := 678) (tgt := 711) dl_33 (by rw [c23]; decide) (by rw [c23]; decide) (by rw [c23]; decide) (by decide) ?_
    exact ca_23 hx h kk
  by_cases c24 : v = 24
  · refine tz_tableIn (off := 711) (tgt := 744) dl_33 (by rw [c24]; decide) (by rw [c24]; decide) (by rw [c24]; decide) (by decide) ?_
    exact ca_24 hx h kk
  by_cases c25 : v = 25
  · refine tz_tableIn (off := 734) (tgt := 767) dl_33 (by rw [c25]; decide) (by rw [c25]; decide) (by rw [c25]; decide) (by decide) ?_
    exact ca_25 hx h kk
  by_cases c26 : v = 26
  · refine tz_tableIn (off := 757) (tgt := 790) dl_33 (by rw [c26]; decide) (by rw [c26]; decide) (by rw [c26]; decide) (by decide) ?_
    exact ca_26 hx h kk
  have t0 := lv_neT c0 (show (0 : Int32).toInt = 0 by decide)
  have t1 := lv_neT c1 (show (1 : Int32).toInt = 1 by decide)
  have t2 := lv_neT c2 (show (2 : Int32).toInt = 2 by decide)
  have t3 := lv_neT c3 (show (3 : Int32).toInt = 3 by decide)
  have t4 := lv_neT c4 (show (4 : Int32).toInt = 4 by decide)
  have t5 := lv_neT c5 (show (5 : Int32).toInt = 5 by decide)
  have t6 := lv_neT c6 (show (6 : Int32).toInt = 6 by decide)
  have t7 := lv_neT c7 (show (7 : Int32).toInt = 7 by decide)
  have t8 := lv_neT c8 (show (8 : Int32).toInt = 8 by decide)
  have t9 := lv_neT c9 (show (9 : Int32).toInt = 9 by decide)
  have t10 := lv_neT c10 (show (10 : Int32).toInt = 10 by decide)
  have t11 := lv_neT c11 (show (11 : Int32).toInt = 11 by decide)
  have t12 := lv_neT c12 (show (12 : Int32).toInt = 12 by decide)
  have t13 := lv_neT c13 (show (13 : Int32).toInt = 13 by decide)
  have t14 := lv_neT c14 (show (14 : Int32).toInt = 14 by decide)
  have t15 := lv_neT c15 (show (15 : Int32).toInt = 15 by decide)
  have t16 := lv_neT c16 (show (16 : Int32).toInt = 16 by decide)
  have t17 := lv_neT c17 (show (17 : Int32).toInt = 17 by decide)
  have t18 := lv_neT c18 (show (18 : Int32).toInt = 18 by decide)
  have t19 := lv_neT c19 (show (19 : Int32).toInt = 19 by decide)
  have t20 := lv_neT c20 (show (20 : Int32).toInt = 20 by decide)
  have t21 := lv_neT c21 (show (21 : Int32).toInt = 21 by decide)
  have t22 := lv_neT c22 (show (22 : Int32).toInt = 22 by decide)
  have t23 := lv_neT c23 (show (23 : Int32).toInt = 23 by decide)
  have t24 := lv_neT c24 (show (24 : Int32).toInt = 24 by decide)
  have t25 := lv_neT c25 (show (25 : Int32).toInt = 25 by decide)
  have t26 := lv_neT c26 (show (26 : Int32).toInt = 26 by decide)
  exact tz_tableOut (tgt := 813) dl_33 (by omega) (by decide) (kk _ _ _ h)
theorem lw_le {i n : Nat} (hn : n ≤ 3072) (hi : i ≤ 3078) (q : ¬ Int32.ofNat n - 6 < nI i) : i + 6 ≤ n := by
  rcases Nat.lt_or_ge n 6 with h | h
  · exfalso
    apply q
    have h0 : Int32.ofNat n - 6 < 0 := by
      rcases (show n = 0 ∨ n = 1 ∨ n = 2 ∨ n = 3 ∨ n = 4 ∨ n = 5 by omega) with rfl | rfl | rfl | rfl | rfl | rfl <;> decide
    have h1 : (0 : Int32) ≤ nI i := nI_n0 (by omega)
    rw [Int32.lt_iff_toInt_lt] at h0 ⊢
    rw [Int32.le_iff_toInt_le] at h1
    omega
  · obtain ⟨k, rfl⟩ : ∃ k, n = k + 6 := ⟨n - 6, by omega⟩
    have e : Int32.ofNat (k + 6) - 6 = nI k := by
      show nI (k + 6) - 6 = nI k
      rw [← nI_add]
      exact Int32.add_sub_cancel _ _
    rw [e] at q
    rcases Nat.lt_or_ge k i with h2 | h2
    · exact absurd (nI_lt h2 (by omega)) q
    · omega
theorem lw_loop {bb n : Nat} {xs : Nat → Int32} (hn : n ≤ 3072) : ∀ (m i : Nat) (I : zI) (L : zL) (P : zP), n + 6 ≤ i + m → i ≤ n + 6 → Rn I L P → zT bb n xs 18 [some (.ref 1000002), some (.ref 0), some (.ref 160), some (.int (nI i))] [] I L P 205 205 69841 := by
  intro m
  induction m with
  | zero =>
    intro i I L P h1 h2 h
    refine tz_iload dl_18 rfl ?_
    refine tz_aload dl_19 rfl ?_
    refine tz_alen dl_20 ?_
    refine tz_bipush (v := 6) dl_21 (by decide) ?_
    refine tz_isub dl_23 ?_
    refine tz_icmp_gt (tgt := 819) dl_24 (by decide) (fun _ => ?_) (fun q => ?_)
    · refine tz_iconst (v := 1) dl_819 (by decide) ?_
      exact tz_ret dl_820 (by decide) (by decide)
    · have := lw_le hn (by omega) q
      omega
  | succ m ih =>
    intro i I L P h1 h2 h
    refine tz_iload dl_18 rfl ?_
    refine tz_aload dl_19 rfl ?_
    refine tz_alen dl_20 ?_
    refine tz_bipush (v := 6) dl_21 (by decide) ?_
    refine tz_isub dl_23 ?_
    refine tz_icmp_gt (tgt := 819) dl_24 (by decide) (fun _ => ?_) (fun q => ?_)
    · refine tz_iconst (v := 1) dl_819 (by decide) ?_
      exact tz_ret dl_820 (by decide) (by decide)
    · have hi := lw_le hn (by omega) q
      have inn : ∀ k, k < 6 → vp_in (nI i + nI k) n := fun k hk => by
        rw [nI_add]
        exact nx_in (by omega) (by omega)
      refine tz_aload dl_27 rfl ?_
      refine tz_iload dl_28 rfl ?_
      refine tz_iald dl_29 (nx_in (by omega) (by omega)) rfl ?_
      refine tz_bipush (v := 31) dl_30 (by decide) ?_
      refine tz_iand dl_32 ?_
      refine lw_sw ⟨⟨inn 1 (by decide), rfl⟩, ⟨inn 2 (by decide), rfl⟩, ⟨inn 3 (by decide), rfl⟩, ⟨inn 4 (by decide), rfl⟩, ⟨inn 5 (by decide), rfl⟩⟩ h (fun I' L' P' h' => ?_)
      refine tz_iinc (v2 := nI (i + 6)) (lv2 := [some (.ref 1000002), some (.ref 0), some (.ref 160), some (.int (nI (i + 6)))]) dl_813 rfl (nI_add i 6) (by decide) rfl rfl ?_
      refine tz_goto (tgt := 18) dl_816 (by decide) ?_
      exact ih (i + 6) I' L' P' (by omega) (by omega) h'
