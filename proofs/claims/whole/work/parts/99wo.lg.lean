/-! ===== both objects made ===== -/
abbrev zI9 : zI := zuI (zuI (zuI (fun _ _ => 0) 17 1 (-1)) 17 8 275) 73 3 1
theorem Rn_start {I' : zI} {L' : zL} (h : mNew zI9 I') (hw : wdR L') : Rn I' L' (pL lMM) := by
  obtain ⟨ho, m28, ⟨m163, m165, m166, m167, m171⟩, ⟨m180, m181⟩, ⟨m2, m4, m5⟩, ⟨m38, m39, m40, m46, m59, m60⟩, m199, m161⟩ := h
  have z : ∀ b k v, b < 160 → zI9 b k = v → I' b k = v := fun b k v hb e => by rw [ho b hb]; exact e
  have zo : ∀ b k, b ≠ 17 → b ≠ 73 → zI9 b k = 0 := fun b k h1 h2 => by
    show zuI (zuI (zuI (fun _ _ => 0) 17 1 (-1)) 17 8 275) 73 3 1 b k = 0
    rw [zuI_ne h2, zuI_ne h1, zuI_ne h1]
  have zs : ∀ k, k ≠ 3 → zI9 73 k = 0 := fun k hk => by
    show zuI (zuI (zuI (fun _ _ => 0) 17 1 (-1)) 17 8 275) 73 3 1 73 k = 0
    rw [zuI_o hk, zuI_ne (by decide), zuI_ne (by decide)]
  have z73 : zI9 73 3 = 1 := zuI_v _ _ _ _
  have z170 : zI9 17 0 = 0 := by
    show zuI (zuI (zuI (fun _ _ => 0) 17 1 (-1)) 17 8 275) 73 3 1 17 0 = 0
    rw [zuI_ne (by decide), zuI_o (by decide), zuI_o (by decide)]
  have z171 : zI9 17 1 = -1 := by
    show zuI (zuI (zuI (fun _ _ => 0) 17 1 (-1)) 17 8 275) 73 3 1 17 1 = -1
    rw [zuI_ne (by decide), zuI_o (by decide), zuI_v]
  have e : ∀ b k, b < 160 → b ≠ 17 → b ≠ 73 → I' b k = 0 := fun b k h1 h2 h3 => z b k 0 h1 (zo b k h2 h3)
  refine Rn_new zPk_MM (by decide +kernel) (by decide +kernel) (by decide +kernel) (fun k _ => e 5 k (by decide) (by decide) (by decide)) (e 8 1 (by decide) (by decide) (by decide)) (e 1 1 (by decide) (by decide) (by decide)) (z 17 0 0 (by decide) z170) (z 17 1 (-1) (by decide) z171) ⟨z 73 3 1 (by decide) z73, by decide, by decide, ?_⟩ (z 73 4 0 (by decide) (zs 4 (by decide))) (z 73 5 0 (by decide) (zs 5 (by decide))) (z 73 6 0 (by decide) (zs 6 (by decide))) (fun k _ => e 89 k (by decide) (by decide) (by decide)) (e 90 5 (by decide) (by decide) (by decide)) (e 90 6 (by decide) (by decide) (by decide)) (e 96 4 (by decide) (by decide) (by decide)) ⟨hw, e 10 0 (by decide) (by decide) (by decide), e 16 0 (by decide) (by decide) (by decide)⟩ m28 m163 m165 m166 m167 m171 m180 (fun j _ => m181 j) m2 m4 m5 m38 m39 m40 m46 m59 m60 m199 (fun k => by rw [m161 k]; show narrow .byte (.int 0) = .int 0; decide)
  intro j w hj
  match j, hj with
  | 0, hj =>
    cases hj
    exact e 85 0 (by decide) (by decide) (by decide)
  | j + 1, hj => simp at hj
set_option maxRecDepth 20000 in
theorem lw_begin {bb n : Nat} {xs : Nat → Int32} (hn : n ≤ 3072) : zT bb n xs 0 [some (.ref 1000002), none, none, none] [] (fun _ _ => 0) (fun _ _ => 0) (pL []) 0 0 0 := by
  have hF : zFz 0 (fun _ _ => 0) (fun _ _ => 0) (pL []) := fun b _ k => ⟨rfl, rfl, rfl⟩
  refine tz_new (c := 10) dl_0 (by decide) zy_L_7 (by decide) rfl hF (Nat.le_of_ble_eq_true rfl) (Nat.le_of_ble_eq_true rfl) ?_
  show zT _ _ _ _ _ _ _ _ _ 1 1 13
  have hF : zFz 1 _ _ _ := zFz_le hF (Nat.le_succ _)
  refine tz_dup dl_3 rfl ?_
  refine tz_callI (As := []) (st := [.ref 0]) (d2 := 12) dl_4 zl_L_9 rfl rfl zx_X11_init rfl rfl (Nat.le_of_ble_eq_true rfl) ⟨Nat.le_of_ble_eq_true rfl, Nat.le_of_ble_eq_true rfl⟩ ⟨Nat.le_of_ble_eq_true rfl, Nat.le_of_ble_eq_true rfl⟩ (k_X11_init (Q := fun v I' L' P' nx' => none = v ∧ zI9 = I' ∧ wdR L' ∧ pL lNN = P' ∧ 160 = nx' ∧ zFz 160 zI9 L' (pL lNN)) hF (fun _ => rfl) (fun L' hw h => ⟨rfl, rfl, hw, rfl, rfl, h⟩)) (fun v I1 L1 P1 nx1 q => ?_)
  obtain ⟨rfl, rfl, hw, rfl, rfl, hF⟩ := q
  show zT _ _ _ _ _ _ _ _ _ 160 160 36436
  refine tz_astore (lv2 := [some (.ref 1000002), some (.ref 0), none, none]) dl_7 rfl rfl ?_
  have h160 : ∀ k, zI9 160 k = 0 := fun k => (hF 160 (Nat.le_refl _) k).1
  refine tz_new (c := 11) dl_8 (by decide) zy_L_10 (by decide) rfl hF (Nat.le_of_ble_eq_true rfl) (Nat.le_of_ble_eq_true rfl) ?_
  show zT _ _ _ _ _ _ _ _ _ 161 161 36504
  have hF : zFz 161 _ _ _ := zFz_le hF (Nat.le_succ _)
  refine tz_dup dl_11 rfl ?_
  refine tz_callI (As := []) (st := [.ref 160]) (d2 := 20) dl_12 zl_L_12 rfl rfl zx_X12_init rfl rfl (Nat.le_of_ble_eq_true rfl) ⟨Nat.le_of_ble_eq_true rfl, Nat.le_of_ble_eq_true rfl⟩ ⟨Nat.le_of_ble_eq_true rfl, Nat.le_of_ble_eq_true rfl⟩ (k_X12_init (Q := fun v I' L' P' nx' => none = v ∧ mNew zI9 I' ∧ L1 = L' ∧ pL lMM = P' ∧ 205 = nx') hF h160 (fun I' h => ⟨rfl, h, rfl, rfl, rfl⟩)) (fun v I2 L2 P2 nx2 q => ?_)
  obtain ⟨rfl, hm, rfl, rfl, rfl⟩ := q
  show zT _ _ _ _ _ _ _ _ _ 205 205 69841
  refine tz_astore (lv2 := [some (.ref 1000002), some (.ref 0), some (.ref 160), none]) dl_15 rfl rfl ?_
  refine tz_iconst (v := 0) dl_16 (by decide) ?_
  refine tz_istore (lv2 := [some (.ref 1000002), some (.ref 0), some (.ref 160), some (.int 0)]) dl_17 rfl rfl ?_
  exact lw_loop hn (n + 6) 0 _ _ _ (by omega) (by omega) (Rn_start hm hw)
