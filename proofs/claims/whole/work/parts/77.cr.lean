/-! ===== the class: do just these go; the fewest ===== -/
abbrev gw_X11_goJust (d : Nat) (Q : zQt) (pc : Nat) (lv : zV) (st : List Value) (I : zI) (L : zL) (P : zP) : Prop := zW zm_X11_goJust (zRm d 0 0) 0 0 Q pc lv st I L P 205 0 0
abbrev v_X11_goJust_11 (d : Nat) (Q : zQt) (p1 : Int32) (p3 : Int32) (x4 : Int32) (x5 : Int32) (I : zI) (L : zL) (P : zP) : Prop :=
  ((p3 ≤ x5 →
    ((¬ x4 = p1 →
      Q (some (.int 0)) I L P 205
    ) ∧ (x4 = p1 →
      Q (some (.int 1)) I L P 205
    ))
  ) ∧ (¬ p3 ≤ x5 →
    ((¬ (x4 &&& (p1 ^^^ (-1) : Int32) : Int32) = 0 →
      ((¬ x4 = p1 →
        Q (some (.int 0)) I L P 205
      ) ∧ (x4 = p1 →
        Q (some (.int 1)) I L P 205
      ))
    ) ∧ ((x4 &&& (p1 ^^^ (-1) : Int32) : Int32) = 0 →
      zMi zm_X4_pass d [.ref 23, .ref 86] I L P (fun r14 I10 L11 P12 =>
        ((¬ r14 = 0 →
          gw_X11_goJust (d + 1) Q 11 [some (.ref 0), some (.int p1), none, some (.int p3), some (.int (x4 ||| r14 : Int32)), some (.int (x5 + 1)), none, none] [] I10 L11 P12
        ) ∧ (r14 = 0 →
          zPk P12 ∧
          ((¬ (I10 86 3) = (I 86 3) →
            gw_X11_goJust (d + 1) Q 11 [some (.ref 0), some (.int p1), none, some (.int p3), some (.int (x4 ||| r14 : Int32)), some (.int (x5 + 1)), none, none] [] I10 L11 P12
          ) ∧ ((I10 86 3) = (I 86 3) →
            ((¬ x4 = p1 →
              Q (some (.int 0)) I10 L11 P12 205
            ) ∧ (x4 = p1 →
              Q (some (.int 1)) I10 L11 P12 205
            ))
          ))
        ))
      )
    ))
  ))
set_option maxRecDepth 20000 in
theorem g_X11_goJust_11 {d : Nat} {Q : zQt} {p1 : Int32} {p3 : Int32} {x4 : Int32} {x5 : Int32} {I : zI} {L : zL} {P : zP} (hP : zPk P) (hv : v_X11_goJust_11 d Q p1 p3 x4 x5 I L P) : gw_X11_goJust (d + 1) Q 11 [some (.ref 0), some (.int p1), none, some (.int p3), some (.int x4), some (.int x5), none, none] [] I L P := by
  unfold v_X11_goJust_11 at hv
  refine z_iload dX11_goJust_11 rfl ?_
  refine z_iload_n dX11_goJust_13 rfl ?_
  refine z_icmp_ge (tgt := 81) dX11_goJust_14 (by decide) (fun q6 => ?_) (fun q6 => ?_)
  · have hv := hv.1 q6
    refine z_iload dX11_goJust_81 rfl ?_
    refine z_iload_n dX11_goJust_83 rfl ?_
    refine z_icmp_ne (tgt := 91) dX11_goJust_84 (by decide) (fun q7 => ?_) (fun q7 => ?_)
    · have hv := hv.1 q7
      refine z_iconst (v := 0) dX11_goJust_91 (by decide) ?_
      exact z_ireturn dX11_goJust_92 rfl (by decide) (Nat.le_refl _) (Nat.le_refl _) hv
    · have hv := hv.2 q7
      refine z_iconst (v := 1) dX11_goJust_87 (by decide) ?_
      refine z_goto (tgt := 92) dX11_goJust_88 (by decide) ?_
      exact z_ireturn dX11_goJust_92 rfl (by decide) (Nat.le_refl _) (Nat.le_refl _) hv
  · have hv := hv.2 q6
    refine z_iload dX11_goJust_17 rfl ?_
    refine z_iload_n dX11_goJust_19 rfl ?_
    refine z_iconst (v := (-1)) dX11_goJust_20 (by decide) ?_
    refine z_ixor dX11_goJust_21 ?_
    refine z_iand dX11_goJust_22 ?_
    refine z_if_ne (tgt := 81) dX11_goJust_23 (by decide) (fun q8 => ?_) (fun q8 => ?_)
    · have hv := hv.1 q8
      refine z_iload dX11_goJust_81 rfl ?_
      refine z_iload_n dX11_goJust_83 rfl ?_
      refine z_icmp_ne (tgt := 91) dX11_goJust_84 (by decide) (fun q9 => ?_) (fun q9 => ?_)
      · have hv := hv.1 q9
        refine z_iconst (v := 0) dX11_goJust_91 (by decide) ?_
        exact z_ireturn dX11_goJust_92 rfl (by decide) (Nat.le_refl _) (Nat.le_refl _) hv
      · have hv := hv.2 q9
        refine z_iconst (v := 1) dX11_goJust_87 (by decide) ?_
        refine z_goto (tgt := 92) dX11_goJust_88 (by decide) ?_
        exact z_ireturn dX11_goJust_92 rfl (by decide) (Nat.le_refl _) (Nat.le_refl _) hv
    · have hv := hv.2 q8
      refine z_aload_n dX11_goJust_26 rfl ?_
      refine z_getP dX11_goJust_27 zf_X11_65 zn_0 zo_0 (fun _ _ _ _ _ => rfl) (hP 0 7 86 zp_0_7) ?_
      refine z_getI dX11_goJust_30 zf_X11_135 zn_86 zo_86 (fun _ _ _ _ _ => rfl) ?_
      refine z_istore (lv2 := [some (.ref 0), some (.int p1), none, some (.int p3), some (.int x4), some (.int x5), some (.int (I 86 3)), none]) dX11_goJust_33 (by decide) rfl rfl ?_
      refine z_aload_n dX11_goJust_35 rfl ?_
      refine z_getP dX11_goJust_36 zf_X11_45 zn_0 zo_0 (fun _ _ _ _ _ => rfl) (hP 0 5 23 zp_0_5) ?_
      refine z_aload_n dX11_goJust_39 rfl ?_
      refine z_getP dX11_goJust_40 zf_X11_65 zn_0 zo_0 (fun _ _ _ _ _ => rfl) (hP 0 7 86 zp_0_7) ?_
      refine z_callV (As := [.ref 86]) (st := []) dX11_goJust_43 zl_X11_193 zv_X4_pass (by decide) rfl zn_23 zo_23 rfl rfl (Nat.le_of_ble_eq_true rfl) ⟨Nat.le_refl _, Nat.le_refl _⟩ ⟨Nat.le_refl _, Nat.le_refl _⟩ hv (fun v1 I10 L11 P12 nx1 q13 => ?_)
      obtain ⟨rfl, r14, rfl, hv⟩ := q13
      refine z_istore (lv2 := [some (.ref 0), some (.int p1), none, some (.int p3), some (.int x4), some (.int x5), some (.int (I 86 3)), some (.int r14)]) dX11_goJust_46 (by decide) rfl rfl ?_
      refine z_iload dX11_goJust_48 rfl ?_
      refine z_if_ne (tgt := 68) dX11_goJust_50 (by decide) (fun q15 => ?_) (fun q15 => ?_)
      · have hv := hv.1 q15
        refine z_iload dX11_goJust_68 rfl ?_
        refine z_iload dX11_goJust_70 rfl ?_
        refine z_ior dX11_goJust_72 ?_
        refine z_istore (lv2 := [some (.ref 0), some (.int p1), none, some (.int p3), some (.int (x4 ||| r14 : Int32)), some (.int x5), some (.int (I 86 3)), some (.int r14)]) dX11_goJust_73 (by decide) rfl rfl ?_
        refine z_iinc (v2 := x5 + 1) (lv2 := [some (.ref 0), some (.int p1), none, some (.int p3), some (.int (x4 ||| r14 : Int32)), some (.int (x5 + 1)), some (.int (I 86 3)), some (.int r14)]) dX11_goJust_75 rfl (by rfl) (by decide) rfl rfl ?_
        refine z_goto (tgt := 11) dX11_goJust_78 (by decide) ?_
        exact z_sub (by exact ⟨rfl, ⟨rfl, ⟨rfl, ⟨rfl, ⟨rfl, trivial⟩⟩⟩⟩⟩) hv
      · have hv := hv.2 q15
        refine z_aload_n dX11_goJust_53 rfl ?_
        obtain ⟨h16, hv⟩ := hv
        refine z_getP dX11_goJust_54 zf_X11_65 zn_0 zo_0 (fun _ _ _ _ _ => rfl) (h16 0 7 86 zp_0_7) ?_
        refine z_getI dX11_goJust_57 zf_X11_135 zn_86 zo_86 (fun _ _ _ _ _ => rfl) ?_
        refine z_iload dX11_goJust_60 rfl ?_
        refine z_icmp_ne (tgt := 68) dX11_goJust_62 (by decide) (fun q17 => ?_) (fun q17 => ?_)
        · have hv := hv.1 q17
          refine z_iload dX11_goJust_68 rfl ?_
          refine z_iload dX11_goJust_70 rfl ?_
          refine z_ior dX11_goJust_72 ?_
          refine z_istore (lv2 := [some (.ref 0), some (.int p1), none, some (.int p3), some (.int (x4 ||| r14 : Int32)), some (.int x5), some (.int (I 86 3)), some (.int r14)]) dX11_goJust_73 (by decide) rfl rfl ?_
          refine z_iinc (v2 := x5 + 1) (lv2 := [some (.ref 0), some (.int p1), none, some (.int p3), some (.int (x4 ||| r14 : Int32)), some (.int (x5 + 1)), some (.int (I 86 3)), some (.int r14)]) dX11_goJust_75 rfl (by rfl) (by decide) rfl rfl ?_
          refine z_goto (tgt := 11) dX11_goJust_78 (by decide) ?_
          exact z_sub (by exact ⟨rfl, ⟨rfl, ⟨rfl, ⟨rfl, ⟨rfl, trivial⟩⟩⟩⟩⟩) hv
        · have hv := hv.2 q17
          refine z_goto (tgt := 81) dX11_goJust_65 (by decide) ?_
          refine z_iload dX11_goJust_81 rfl ?_
          refine z_iload_n dX11_goJust_83 rfl ?_
          refine z_icmp_ne (tgt := 91) dX11_goJust_84 (by decide) (fun q18 => ?_) (fun q18 => ?_)
          · have hv := hv.1 q18
            refine z_iconst (v := 0) dX11_goJust_91 (by decide) ?_
            exact z_ireturn dX11_goJust_92 rfl (by decide) (Nat.le_refl _) (Nat.le_refl _) hv
          · have hv := hv.2 q18
            refine z_iconst (v := 1) dX11_goJust_87 (by decide) ?_
            refine z_goto (tgt := 92) dX11_goJust_88 (by decide) ?_
            exact z_ireturn dX11_goJust_92 rfl (by decide) (Nat.le_refl _) (Nat.le_refl _) hv
abbrev v_X11_goJust (d : Nat) (Q : zQt) (p1 : Int32) (p2 : Int32) (p3 : Int32) (I : zI) (L : zL) (P : zP) : Prop :=
  zMv zm_X11_takeLeft d [.ref 0, .int p2] I L P (fun I1 L2 P3 =>
    gw_X11_goJust (d + 1) Q 11 [some (.ref 0), some (.int p1), none, some (.int p3), some (.int 0), some (.int 0), none, none] [] I1 L2 P3
  )
set_option maxRecDepth 20000 in
theorem g_X11_goJust {d : Nat} {Q : zQt} {p1 : Int32} {p2 : Int32} {p3 : Int32} {I : zI} {L : zL} {P : zP} (hP : zPk P) (hv : v_X11_goJust d Q p1 p2 p3 I L P) : zM zm_X11_goJust (d + 1) 0 0 [.ref 0, .int p1, .int p2, .int p3] I L P 205 Q := by
  unfold v_X11_goJust at hv
  refine zM_of (lv0 := [some (.ref 0), some (.int p1), some (.int p2), some (.int p3), none, none, none, none]) (by decide +kernel) (Nat.le_of_ble_eq_true rfl) rfl ?_
  refine z_aload_n dX11_goJust_0 rfl ?_
  refine z_iload_n dX11_goJust_1 rfl ?_
  refine z_callV (As := [.int p2]) (st := []) dX11_goJust_2 zl_X11_265 zv_X11_takeLeft (by decide) rfl zn_0 zo_0 rfl rfl (Nat.le_of_ble_eq_true rfl) ⟨Nat.le_refl _, Nat.le_refl _⟩ ⟨Nat.le_refl _, Nat.le_refl _⟩ hv (fun v1 I1 L2 P3 nx1 q4 => ?_)
  obtain ⟨rfl, rfl, hv⟩ := q4
  refine z_iconst (v := 0) dX11_goJust_5 (by decide) ?_
  refine z_istore (lv2 := [some (.ref 0), some (.int p1), some (.int p2), some (.int p3), some (.int 0), none, none, none]) dX11_goJust_6 (by decide) rfl rfl ?_
  refine z_iconst (v := 0) dX11_goJust_8 (by decide) ?_
  refine z_istore (lv2 := [some (.ref 0), some (.int p1), some (.int p2), some (.int p3), some (.int 0), some (.int 0), none, none]) dX11_goJust_9 (by decide) rfl rfl ?_
  exact z_sub (by exact ⟨rfl, ⟨rfl, ⟨rfl, ⟨rfl, ⟨rfl, trivial⟩⟩⟩⟩⟩) hv
theorem outside {acc z : Nat} : (nI acc &&& (nI (acc ||| z) ^^^ (-1) : Int32) : Int32) = 0 := by
  apply Int32.toBitVec_inj.1
  show BitVec.ofNat 32 acc &&& (BitVec.ofNat 32 (acc ||| z) ^^^ BitVec.allOnes 32) = 0#32
  apply BitVec.eq_of_getLsbD_eq
  intro i hi
  simp only [BitVec.getLsbD_and, BitVec.getLsbD_xor, BitVec.getLsbD_ofNat, BitVec.getLsbD_allOnes, Nat.testBit_or, hi, decide_true, Bool.true_and, BitVec.getLsbD_zero, Nat.zero_testBit]
  cases acc.testBit i <;> cases z.testBit i <;> rfl
section GJ
variable {d : Nat} {M I0 : zI} {L0 : zL} {P0 : zP} {t st gn : Nat} {b : Nat → Nat} {cd : Nat → Cd} {po : Nat → Prop} {g : Nat → Nat → Nat}
theorem sp_X11_goJust {I : zI} {L : zL} {P : zP} {x : Int64} {a n s : Nat} {q : Nat → Prop} (hP0 : zPk P0) (hT : MT M) (hR : tR M I0 t st b cd) (hV : sV P0 73 85 74 t M I0 po g gn) (hf0 : tFr I0 I) (hp : pFr P0 P) (h6 : vNs M ≤ 6) (hn : nTd M gn po (vNs M) (2 ^ vNs M) x L) (hs : s < 2 ^ vNs M) (hq : sS M gn po (vNs M) s = some q) (ha : a < 256) (hn12 : n ≤ 12) (hd : 4 ≤ d) {K : Int32 → zI → zL → zP → Prop}
    (kk : ∀ I' P', tFr I0 I' → pFr P0 P' → K (bP (aNt M n 0 q gn = a)) I' L P') : zMi zm_X11_goJust d [.ref 0, .int (nI a), .int (nI s), .int (nI n)] I L P K := by
  obtain ⟨d, rfl⟩ : ∃ e, d = e + 1 := ⟨d - 1, by omega⟩
  have hP := pFr_k hp hP0
  have hV1 := sV_t hV hp hf0
  have hR1 := tR_t hR hf0
  have hnp := hR.1.2.1
  have hN : vN M ≤ 256 := pw8 hnp
  have h64 : 2 ^ vNs M ≤ 64 := Nat.pow_le_pow_right (n := 2) (by decide) h6
  obtain ⟨s1, s2⟩ := sS_sub hV.2.2.2 _ q hq
  have hp1 : pFr P0 (zuP P 86 1 (some t)) := pFr_u hp _
  have hP1 := pFr_k hp1 hP0
  have key : ∀ m i acc pp gg J, i + m = n → tFr I0 J → acc < 256 → sV (zuP P 86 1 (some t)) 86 87 74 t M J pp g gg → J 86 3 = nI (cP pp (vN M)) → aNt M m acc pp gg = aNt M n 0 q gn → gw_X11_goJust (d + 1) (fun v I' L' P' nx' => nx' = 205 ∧ ∃ r, v = some (.int r) ∧ K r I' L' P') 11 [some (.ref 0), some (.int (nI a)), none, some (.int (nI n)), some (.int (nI acc)), some (.int (nI i)), none, none] [] J L (zuP P 86 1 (some t)) := by
    intro m
    induction m with
    | zero =>
      intro i acc pp gg J hi hf hacc hVV h3 hr
      have hr : acc = aNt M n 0 q gn := hr
      refine g_X11_goJust_11 hP1 ⟨fun _ => ⟨fun z => qi ?_, fun z => qi ?_⟩, fun z => absurd (nI_le (by omega) (by omega)) z⟩
      · have := kk J _ hf hp1
        rwa [bP_f (fun y => z (by rw [hr, y]))] at this
      · have := kk J _ hf hp1
        rwa [bP_t (by rw [← hr]; exact (nI_eq (by omega) (by omega)).mp z)] at this
    | succ m ih =>
      intro i acc pp gg J hi hf hacc hVV h3 hr
      have hlt : aGs M pp gg (vTw M) < 256 := Nat.lt_of_lt_of_le (bset_lt _ _) (pw8 hnp)
      refine g_X11_goJust_11 hP1 ⟨fun z => absurd z (nI_ge (by omega) (by omega)), fun _ => ⟨fun z => ?_, fun z => ?_⟩⟩
      · obtain ⟨zz, hz⟩ := aNt_or (M := M) (m + 1) acc gg pp
        have hne : ¬ aNt M n 0 q gn = a := fun y => z (by rw [← y, ← hr, hz]; exact outside)
        have := kk J _ hf hp1
        rw [bP_f hne] at this
        refine ⟨fun _ => qi this, fun y => absurd ?_ z⟩
        rw [← y]
        have := outside (acc := acc) (z := 0)
        rw [Nat.or_zero] at this
        exact this
      · refine b_pass hP1 hT (tR_t hR hf) hVV (by omega) (fun J1 f1 f2 f3 f4 f5 => ?_)
        have hf1 : tFr I0 J1 := tFr_tr hf (tFr_of f1 (by simp))
        rw [f3, h3, same_n hN, nI_zero (by omega), nx_or, nI_1]
        have on : gw_X11_goJust (d + 1) (fun v I' L' P' nx' => nx' = 205 ∧ ∃ r, v = some (.int r) ∧ K r I' L' P') 11 [some (.ref 0), some (.int (nI a)), none, some (.int (nI n)), some (.int (nI (acc ||| aGs M pp gg (vTw M)))), some (.int (nI (i + 1))), none, none] [] J1 L (zuP P 86 1 (some t)) :=
          ih (i + 1) (acc ||| aGs M pp gg (vTw M)) _ _ J1 (by omega) hf1 (or256 hacc hlt) f2 f3 hr
        refine ⟨fun _ => on, fun y1 => ⟨hP1, fun _ => on, fun y2 => ?_⟩⟩
        have hr : acc = aNt M n 0 q gn := by rw [← hr, aNt_fix y1 y2]
        refine ⟨fun z => qi ?_, fun z => qi ?_⟩
        · have := kk J1 _ hf1 hp1
          rwa [bP_f (fun y => z (by rw [hr, y]))] at this
        · have := kk J1 _ hf1 hp1
          rwa [bP_t (by rw [← hr]; exact (nI_eq (by omega) (by omega)).mp z)] at this
  refine g_X11_goJust hP (b_takeLeft (q := q) hP hV1 (fun w hw pw => ?_) (fun w _ z => s1 w z) s2 (by omega) (fun I1 f1 f2 f3 => ?_))
  · rw [hn.2 w s hw pw (by omega), hq]
    exact ⟨fun z => by obtain ⟨-, q', h1, h2⟩ := z; cases h1; exact h2, fun z => ⟨hs, q, rfl, z⟩⟩
  · exact key n 0 0 _ _ I1 (by omega) (tFr_tr hf0 (tFr_of f1 (by simp))) (by decide) f2 f3 rfl
abbrev gw_X11_fewest (d : Nat) (Q : zQt) (pc : Nat) (lv : zV) (st : List Value) (I : zI) (L : zL) (P : zP) : Prop := zW zm_X11_fewest (zRm d 0 0) 0 0 Q pc lv st I L P 205 0 0
abbrev v_X11_fewest_47 (d : Nat) (Q : zQt) (p1 : Int32) (p2 : Int32) (x3 : Int64) (x5 : Int32) (x6 : Int32) (I : zI) (L : zL) (P : zP) : Prop :=
  ∃ b20 : Nat, P 0 2 = some b20 ∧
  (b20 < 205 ∧ (zsh b20).1 = 2) ∧
  ((((1 : Int32) <<< ((I b20 4) &&& 31) : Int32) ≤ x6 →
    gw_X11_fewest (d + 1) Q 32 [some (.ref 0), some (.int p1), some (.int p2), some (.long x3), none, some (.int (x5 + 1)), none, none] [] I L P
  ) ∧ (¬ ((1 : Int32) <<< ((I b20 4) &&& 31) : Int32) ≤ x6 →
    zMi zm_J6_bitCount_0f7a4 d [.int x6] I L P (fun r28 I24 L25 P26 =>
      ((¬ r28 = x5 →
        (((0 : Int32) = 0 →
          gw_X11_fewest (d + 1) Q 47 [some (.ref 0), some (.int p1), some (.int p2), some (.long x3), none, some (.int x5), some (.int (x6 + 1)), none] [] I24 L25 P26
        ) ∧ (¬ (0 : Int32) = 0 →
          zMi zm_X11_goJust d [.ref 0, .int p1, .int x6, .int p2] I24 L25 P26 (fun r35 I31 L32 P33 =>
            ((r35 = 0 →
              gw_X11_fewest (d + 1) Q 47 [some (.ref 0), some (.int p1), some (.int p2), some (.long x3), none, some (.int x5), some (.int (x6 + 1)), none] [] I31 L32 P33
            ) ∧ (¬ r35 = 0 →
              Q (some (.int x6)) I31 L32 P33 205
            ))
          )
        ))
      ) ∧ (r28 = x5 →
        ((¬ (lg_cmp (((x3 : Int64) >>> ((x6 : Int32).toInt64 &&& 63) : Int64) &&& 1 : Int64) 1) = 0 →
          (((0 : Int32) = 0 →
            gw_X11_fewest (d + 1) Q 47 [some (.ref 0), some (.int p1), some (.int p2), some (.long x3), none, some (.int x5), some (.int (x6 + 1)), none] [] I24 L25 P26
          ) ∧ (¬ (0 : Int32) = 0 →
            zMi zm_X11_goJust d [.ref 0, .int p1, .int x6, .int p2] I24 L25 P26 (fun r43 I39 L40 P41 =>
              ((r43 = 0 →
                gw_X11_fewest (d + 1) Q 47 [some (.ref 0), some (.int p1), some (.int p2), some (.long x3), none, some (.int x5), some (.int (x6 + 1)), none] [] I39 L40 P41
              ) ∧ (¬ r43 = 0 →
                Q (some (.int x6)) I39 L40 P41 205
              ))
            )
          ))
        ) ∧ ((lg_cmp (((x3 : Int64) >>> ((x6 : Int32).toInt64 &&& 63) : Int64) &&& 1 : Int64) 1) = 0 →
          (((1 : Int32) = 0 →
            gw_X11_fewest (d + 1) Q 47 [some (.ref 0), some (.int p1), some (.int p2), some (.long x3), none, some (.int x5), some (.int (x6 + 1)), none] [] I24 L25 P26
          ) ∧ (¬ (1 : Int32) = 0 →
            zMi zm_X11_goJust d [.ref 0, .int p1, .int x6, .int p2] I24 L25 P26 (fun r50 I46 L47 P48 =>
              ((r50 = 0 →
                gw_X11_fewest (d + 1) Q 47 [some (.ref 0), some (.int p1), some (.int p2), some (.long x3), none, some (.int x5), some (.int (x6 + 1)), none] [] I46 L47 P48
              ) ∧ (¬ r50 = 0 →
                Q (some (.int x6)) I46 L47 P48 205
              ))
            )
          ))
        ))
      ))
    )
  ))
set_option maxRecDepth 20000 in
theorem g_X11_fewest_47 {d : Nat} {Q : zQt} {p1 : Int32} {p2 : Int32} {x3 : Int64} {x5 : Int32} {x6 : Int32} {I : zI} {L : zL} {P : zP} (hP : zPk P) (hd : 1 ≤ d) (hv : v_X11_fewest_47 d Q p1 p2 x3 x5 x6 I L P) : gw_X11_fewest (d + 1) Q 47 [some (.ref 0), some (.int p1), some (.int p2), some (.long x3), none, some (.int x5), some (.int x6), none] [] I L P := by
  unfold v_X11_fewest_47 at hv
  refine z_iload dX11_fewest_47 rfl ?_
  refine z_iconst (v := 1) dX11_fewest_49 (by decide) ?_
  refine z_aload_n dX11_fewest_50 rfl ?_
  obtain ⟨b20, h21, hv⟩ := hv
  refine z_getP dX11_fewest_51 zf_X11_26 zn_0 zo_0 (fun _ _ _ _ _ => rfl) h21 ?_
  obtain ⟨h22, hv⟩ := hv
  refine z_getI dX11_fewest_54 zf_X11_173 h22.1 h22.2 (fun _ _ _ _ _ => rfl) ?_
  refine z_ishl dX11_fewest_57 ?_
  refine z_icmp_ge (tgt := 114) dX11_fewest_58 (by decide) (fun q23 => ?_) (fun q23 => ?_)
  · have hv := hv.1 q23
    refine z_iinc (v2 := x5 + 1) (lv2 := [some (.ref 0), some (.int p1), some (.int p2), some (.long x3), none, some (.int (x5 + 1)), some (.int x6), none]) dX11_fewest_114 rfl (by rfl) (by decide) rfl rfl ?_
    refine z_goto (tgt := 32) dX11_fewest_117 (by decide) ?_
    exact z_sub (by exact ⟨rfl, ⟨rfl, ⟨rfl, ⟨rfl, ⟨rfl, trivial⟩⟩⟩⟩⟩) hv
  · have hv := hv.2 q23
    refine z_iload dX11_fewest_61 rfl ?_
    refine z_callS (As := [.int x6]) (st := []) dX11_fewest_63 zl_X11_207 zs_J6_bitCount_0f7a4 rfl rfl (Nat.le_of_ble_eq_true rfl) ⟨Nat.le_refl _, Nat.le_refl _⟩ ⟨Nat.le_refl _, Nat.le_refl _⟩ hv (fun v1 I24 L25 P26 nx1 q27 => ?_)
    obtain ⟨rfl, r28, rfl, hv⟩ := q27
    refine z_iload dX11_fewest_66 rfl ?_
    refine z_icmp_ne (tgt := 86) dX11_fewest_68 (by decide) (fun q29 => ?_) (fun q29 => ?_)
    · have hv := hv.1 q29
      refine z_iconst (v := 0) dX11_fewest_86 (by decide) ?_
      refine z_istore (lv2 := [some (.ref 0), some (.int p1), some (.int p2), some (.long x3), none, some (.int x5), some (.int x6), some (.int 0)]) dX11_fewest_87 (by decide) rfl rfl ?_
      refine z_iload dX11_fewest_89 rfl ?_
      refine z_if_eq (tgt := 108) dX11_fewest_91 (by decide) (fun q30 => ?_) (fun q30 => ?_)
      · have hv := hv.1 q30
        refine z_iinc (v2 := x6 + 1) (lv2 := [some (.ref 0), some (.int p1), some (.int p2), some (.long x3), none, some (.int x5), some (.int (x6 + 1)), some (.int 0)]) dX11_fewest_108 rfl (by rfl) (by decide) rfl rfl ?_
        refine z_goto (tgt := 47) dX11_fewest_111 (by decide) ?_
        exact z_sub (by exact ⟨rfl, ⟨rfl, ⟨rfl, ⟨rfl, ⟨rfl, ⟨rfl, trivial⟩⟩⟩⟩⟩⟩) hv
      · have hv := hv.2 q30
        refine z_aload_n dX11_fewest_94 rfl ?_
        refine z_iload_n dX11_fewest_95 rfl ?_
        refine z_iload dX11_fewest_96 rfl ?_
        refine z_iload_n dX11_fewest_98 rfl ?_
        refine z_callV (As := [.int p1, .int x6, .int p2]) (st := []) dX11_fewest_99 zl_X11_213 zv_X11_goJust (by decide) rfl zn_0 zo_0 rfl rfl (Nat.le_of_ble_eq_true rfl) ⟨Nat.le_refl _, Nat.le_refl _⟩ ⟨Nat.le_refl _, Nat.le_refl _⟩ hv (fun v1 I31 L32 P33 nx1 q34 => ?_)
        obtain ⟨rfl, r35, rfl, hv⟩ := q34
        refine z_if_eq (tgt := 108) dX11_fewest_102 (by decide) (fun q36 => ?_) (fun q36 => ?_)
        · have hv := hv.1 q36
          refine z_iinc (v2 := x6 + 1) (lv2 := [some (.ref 0), some (.int p1), some (.int p2), some (.long x3), none, some (.int x5), some (.int (x6 + 1)), some (.int 0)]) dX11_fewest_108 rfl (by rfl) (by decide) rfl rfl ?_
          refine z_goto (tgt := 47) dX11_fewest_111 (by decide) ?_
          exact z_sub (by exact ⟨rfl, ⟨rfl, ⟨rfl, ⟨rfl, ⟨rfl, ⟨rfl, trivial⟩⟩⟩⟩⟩⟩) hv
        · have hv := hv.2 q36
          refine z_iload dX11_fewest_105 rfl ?_
          exact z_ireturn dX11_fewest_107 rfl rfl (Nat.le_refl _) (Nat.le_refl _) hv
    · have hv := hv.2 q29
      refine z_lload_n dX11_fewest_71 rfl ?_
      refine z_iload dX11_fewest_72 rfl ?_
      refine z_lshr dX11_fewest_74 ?_
      refine z_lconst (v := 1) dX11_fewest_75 (by decide) ?_
      refine z_land dX11_fewest_76 ?_
      refine z_lconst (v := 1) dX11_fewest_77 (by decide) ?_
      refine z_lcmp dX11_fewest_78 ?_
      refine z_if_ne (tgt := 86) dX11_fewest_79 (by decide) (fun q37 => ?_) (fun q37 => ?_)
      · have hv := hv.1 q37
        refine z_iconst (v := 0) dX11_fewest_86 (by decide) ?_
        refine z_istore (lv2 := [some (.ref 0), some (.int p1), some (.int p2), some (.long x3), none, some (.int x5), some (.int x6), some (.int 0)]) dX11_fewest_87 (by decide) rfl rfl ?_
        refine z_iload dX11_fewest_89 rfl ?_
        refine z_if_eq (tgt := 108) dX11_fewest_91 (by decide) (fun q38 => ?_) (fun q38 => ?_)
        · have hv := hv.1 q38
          refine z_iinc (v2 := x6 + 1) (lv2 := [some (.ref 0), some (.int p1), some (.int p2), some (.long x3), none, some (.int x5), some (.int (x6 + 1)), some (.int 0)]) dX11_fewest_108 rfl (by rfl) (by decide) rfl rfl ?_
          refine z_goto (tgt := 47) dX11_fewest_111 (by decide) ?_
          exact z_sub (by exact ⟨rfl, ⟨rfl, ⟨rfl, ⟨rfl, ⟨rfl, ⟨rfl, trivial⟩⟩⟩⟩⟩⟩) hv
        · have hv := hv.2 q38
          refine z_aload_n dX11_fewest_94 rfl ?_
          refine z_iload_n dX11_fewest_95 rfl ?_
          refine z_iload dX11_fewest_96 rfl ?_
          refine z_iload_n dX11_fewest_98 rfl ?_
          refine z_callV (As := [.int p1, .int x6, .int p2]) (st := []) dX11_fewest_99 zl_X11_213 zv_X11_goJust (by decide) rfl zn_0 zo_0 rfl rfl (Nat.le_of_ble_eq_true rfl) ⟨Nat.le_refl _, Nat.le_refl _⟩ ⟨Nat.le_refl _, Nat.le_refl _⟩ hv (fun v1 I39 L40 P41 nx1 q42 => ?_)
          obtain ⟨rfl, r43, rfl, hv⟩ := q42
          refine z_if_eq (tgt := 108) dX11_fewest_102 (by decide) (fun q44 => ?_) (fun q44 => ?_)
          · have hv := hv.1 q44
            refine z_iinc (v2 := x6 + 1) (lv2 := [some (.ref 0), some (.int p1), some (.int p2), some (.long x3), none, some (.int x5), some (.int (x6 + 1)), some (.int 0)]) dX11_fewest_108 rfl (by rfl) (by decide) rfl rfl ?_
            refine z_goto (tgt := 47) dX11_fewest_111 (by decide) ?_
            exact z_sub (by exact ⟨rfl, ⟨rfl, ⟨rfl, ⟨rfl, ⟨rfl, ⟨rfl, trivial⟩⟩⟩⟩⟩⟩) hv
          · have hv := hv.2 q44
            refine z_iload dX11_fewest_105 rfl ?_
            exact z_ireturn dX11_fewest_107 rfl rfl (Nat.le_refl _) (Nat.le_refl _) hv
      · have hv := hv.2 q37
        refine z_iconst (v := 1) dX11_fewest_82 (by decide) ?_
        refine z_goto (tgt := 87) dX11_fewest_83 (by decide) ?_
        refine z_istore (lv2 := [some (.ref 0), some (.int p1), some (.int p2), some (.long x3), none, some (.int x5), some (.int x6), some (.int 1)]) dX11_fewest_87 (by decide) rfl rfl ?_
        refine z_iload dX11_fewest_89 rfl ?_
        refine z_if_eq (tgt := 108) dX11_fewest_91 (by decide) (fun q45 => ?_) (fun q45 => ?_)
        · have hv := hv.1 q45
          refine z_iinc (v2 := x6 + 1) (lv2 := [some (.ref 0), some (.int p1), some (.int p2), some (.long x3), none, some (.int x5), some (.int (x6 + 1)), some (.int 1)]) dX11_fewest_108 rfl (by rfl) (by decide) rfl rfl ?_
          refine z_goto (tgt := 47) dX11_fewest_111 (by decide) ?_
          exact z_sub (by exact ⟨rfl, ⟨rfl, ⟨rfl, ⟨rfl, ⟨rfl, ⟨rfl, trivial⟩⟩⟩⟩⟩⟩) hv
        · have hv := hv.2 q45
          refine z_aload_n dX11_fewest_94 rfl ?_
          refine z_iload_n dX11_fewest_95 rfl ?_
          refine z_iload dX11_fewest_96 rfl ?_
          refine z_iload_n dX11_fewest_98 rfl ?_
          refine z_callV (As := [.int p1, .int x6, .int p2]) (st := []) dX11_fewest_99 zl_X11_213 zv_X11_goJust (by decide) rfl zn_0 zo_0 rfl rfl (Nat.le_of_ble_eq_true rfl) ⟨Nat.le_refl _, Nat.le_refl _⟩ ⟨Nat.le_refl _, Nat.le_refl _⟩ hv (fun v1 I46 L47 P48 nx1 q49 => ?_)
          obtain ⟨rfl, r50, rfl, hv⟩ := q49
          refine z_if_eq (tgt := 108) dX11_fewest_102 (by decide) (fun q51 => ?_) (fun q51 => ?_)
          · have hv := hv.1 q51
            refine z_iinc (v2 := x6 + 1) (lv2 := [some (.ref 0), some (.int p1), some (.int p2), some (.long x3), none, some (.int x5), some (.int (x6 + 1)), some (.int 1)]) dX11_fewest_108 rfl (by rfl) (by decide) rfl rfl ?_
            refine z_goto (tgt := 47) dX11_fewest_111 (by decide) ?_
            exact z_sub (by exact ⟨rfl, ⟨rfl, ⟨rfl, ⟨rfl, ⟨rfl, ⟨rfl, trivial⟩⟩⟩⟩⟩⟩) hv
          · have hv := hv.2 q51
            refine z_iload dX11_fewest_105 rfl ?_
            exact z_ireturn dX11_fewest_107 rfl rfl (Nat.le_refl _) (Nat.le_refl _) hv
abbrev v_X11_fewest_32 (d : Nat) (Q : zQt) (p1 : Int32) (p2 : Int32) (x3 : Int64) (x5 : Int32) (I : zI) (L : zL) (P : zP) : Prop :=
  ∃ b16 : Nat, P 0 2 = some b16 ∧
  (b16 < 205 ∧ (zsh b16).1 = 2) ∧
  (((I b16 4) < x5 →
    Q (some (.int (-1))) I L P 205
  ) ∧ (¬ (I b16 4) < x5 →
    gw_X11_fewest (d + 1) Q 47 [some (.ref 0), some (.int p1), some (.int p2), some (.long x3), none, some (.int x5), some (.int 0), none] [] I L P
  ))
set_option maxRecDepth 20000 in
theorem g_X11_fewest_32 {d : Nat} {Q : zQt} {p1 : Int32} {p2 : Int32} {x3 : Int64} {x5 : Int32} {I : zI} {L : zL} {P : zP} (hP : zPk P) (hd : 1 ≤ d) (hv : v_X11_fewest_32 d Q p1 p2 x3 x5 I L P) : gw_X11_fewest (d + 1) Q 32 [some (.ref 0), some (.int p1), some (.int p2), some (.long x3), none, some (.int x5), none, none] [] I L P := by
  unfold v_X11_fewest_32 at hv
  refine z_iload dX11_fewest_32 rfl ?_
  refine z_aload_n dX11_fewest_34 rfl ?_
  obtain ⟨b16, h17, hv⟩ := hv
  refine z_getP dX11_fewest_35 zf_X11_26 zn_0 zo_0 (fun _ _ _ _ _ => rfl) h17 ?_
  obtain ⟨h18, hv⟩ := hv
  refine z_getI dX11_fewest_38 zf_X11_173 h18.1 h18.2 (fun _ _ _ _ _ => rfl) ?_
  refine z_icmp_gt (tgt := 120) dX11_fewest_41 (by decide) (fun q19 => ?_) (fun q19 => ?_)
  · have hv := hv.1 q19
    refine z_iconst (v := (-1)) dX11_fewest_120 (by decide) ?_
    exact z_ireturn dX11_fewest_121 rfl rfl (Nat.le_refl _) (Nat.le_refl _) hv
  · have hv := hv.2 q19
    refine z_iconst (v := 0) dX11_fewest_44 (by decide) ?_
    refine z_istore (lv2 := [some (.ref 0), some (.int p1), some (.int p2), some (.long x3), none, some (.int x5), some (.int 0), none]) dX11_fewest_45 (by decide) rfl rfl ?_
    exact hv
abbrev v_X11_fewest (d : Nat) (Q : zQt) (p1 : Int32) (p2 : Int32) (I : zI) (L : zL) (P : zP) : Prop :=
  ∃ b1 : Nat, P 0 2 = some b1 ∧
  (b1 < 205 ∧ (zsh b1).1 = 2) ∧
  il b1 ∧
  vp_in (I b1 0) 9 ∧
  (((bP (vp_in p1 (2 ^ (I b1 0).toNatClampNeg))) = 0 →
    Q (some (.int (-1))) I L P 205
  ) ∧ (¬ (bP (vp_in p1 (2 ^ (I b1 0).toNatClampNeg))) = 0 →
    ((p2 < 1 →
      Q (some (.int (-1))) I L P 205
    ) ∧ (¬ p2 < 1 →
      ((p2 ≤ 12 →
        zMl zm_X11_trySayings d [.ref 0] I L P (fun r15 I11 L12 P13 =>
          gw_X11_fewest (d + 1) Q 32 [some (.ref 0), some (.int p1), some (.int p2), some (.long r15), none, some (.int 0), none, none] [] I11 L12 P13
        )
      ) ∧ (¬ p2 ≤ 12 →
        Q (some (.int (-1))) I L P 205
      ))
    ))
  ))
set_option maxRecDepth 20000 in
theorem g_X11_fewest {d : Nat} {Q : zQt} {p1 : Int32} {p2 : Int32} {I : zI} {L : zL} {P : zP} (hP : zPk P) (hd : 1 ≤ d) (hv : v_X11_fewest d Q p1 p2 I L P) : zM zm_X11_fewest (d + 1) 0 0 [.ref 0, .int p1, .int p2] I L P 205 Q := by
  unfold v_X11_fewest at hv
  refine zM_of (lv0 := [some (.ref 0), some (.int p1), some (.int p2), none, none, none, none, none]) (by decide +kernel) (Nat.le_of_ble_eq_true rfl) rfl ?_
  refine z_aload_n dX11_fewest_0 rfl ?_
  obtain ⟨b1, h2, hv⟩ := hv
  refine z_getP dX11_fewest_1 zf_X11_26 zn_0 zo_0 (fun _ _ _ _ _ => rfl) h2 ?_
  refine z_iload_n dX11_fewest_4 rfl ?_
  obtain ⟨h3, hv⟩ := hv
  obtain ⟨h4, hv⟩ := hv
  obtain ⟨h5, hv⟩ := hv
  refine z_callV (As := [.int p1]) (st := []) dX11_fewest_5 zl_X11_180 zv_X2_arePeople (by decide) rfl h3.1 h3.2 rfl rfl (Nat.le_of_ble_eq_true rfl) ⟨Nat.le_refl _, Nat.le_refl _⟩ ⟨Nat.le_refl _, Nat.le_refl _⟩ (sp_X2_arePeople hP h4 h5 (by omega) (K := fun r I' L' P' => bP (vp_in p1 (2 ^ (I b1 0).toNatClampNeg)) = r ∧ I = I' ∧ L = L' ∧ P = P') ⟨rfl, rfl, rfl, rfl⟩) (fun v1 I2 L2 P2 nx1 q7 => ?_)
  obtain ⟨rfl, r6, rfl, rfl, rfl, rfl, rfl⟩ := q7
  refine z_if_eq (tgt := 22) dX11_fewest_8 (by decide) (fun q8 => ?_) (fun q8 => ?_)
  · have hv := hv.1 q8
    refine z_iconst (v := (-1)) dX11_fewest_22 (by decide) ?_
    exact z_ireturn dX11_fewest_23 rfl rfl (Nat.le_refl _) (Nat.le_refl _) hv
  · have hv := hv.2 q8
    refine z_iload_n dX11_fewest_11 rfl ?_
    refine z_iconst (v := 1) dX11_fewest_12 (by decide) ?_
    refine z_icmp_lt (tgt := 22) dX11_fewest_13 (by decide) (fun q9 => ?_) (fun q9 => ?_)
    · have hv := hv.1 q9
      refine z_iconst (v := (-1)) dX11_fewest_22 (by decide) ?_
      exact z_ireturn dX11_fewest_23 rfl rfl (Nat.le_refl _) (Nat.le_refl _) hv
    · have hv := hv.2 q9
      refine z_iload_n dX11_fewest_16 rfl ?_
      refine z_bipush (v := 12) dX11_fewest_17 (by decide) ?_
      refine z_icmp_le (tgt := 24) dX11_fewest_19 (by decide) (fun q10 => ?_) (fun q10 => ?_)
      · have hv := hv.1 q10
        refine z_aload_n dX11_fewest_24 rfl ?_
        refine z_callV (As := []) (st := []) dX11_fewest_25 zl_X11_203 zv_X11_trySayings (by decide) rfl zn_0 zo_0 rfl rfl (Nat.le_of_ble_eq_true rfl) ⟨Nat.le_refl _, Nat.le_refl _⟩ ⟨Nat.le_refl _, Nat.le_refl _⟩ hv (fun v1 I11 L12 P13 nx1 q14 => ?_)
        obtain ⟨rfl, r15, rfl, hv⟩ := q14
        refine z_lstore_n (lv2 := [some (.ref 0), some (.int p1), some (.int p2), some (.long r15), none, none, none, none]) dX11_fewest_28 (by decide) rfl rfl ?_
        refine z_iconst (v := 0) dX11_fewest_29 (by decide) ?_
        refine z_istore (lv2 := [some (.ref 0), some (.int p1), some (.int p2), some (.long r15), none, some (.int 0), none, none]) dX11_fewest_30 (by decide) rfl rfl ?_
        exact hv
      · have hv := hv.2 q10
        refine z_iconst (v := (-1)) dX11_fewest_22 (by decide) ?_
        exact z_ireturn dX11_fewest_23 rfl rfl (Nat.le_refl _) (Nat.le_refl _) hv
/-- the sets that are sound, and by which just a go -/
def gGo (M : zI) (gn : Nat) (po : Nat → Prop) (n a s : Nat) : Prop := ∃ q, sS M gn po (vNs M) s = some q ∧ aNt M n 0 q gn = a
theorem fBs_g {n a : Nat} (hB : MB M) (hC : MC M) (hT : MT M) (ht : po (vTw M)) (ha : a < 256) {r : Int32} (h : fBs (gGo M gn po n a) (2 ^ vNs M) r) : fBs (fun s => aGb M s n po gn = nI a) (2 ^ vNs M) r := by
  have hns := hC.1
  have h31 : ∀ s, s < 2 ^ vNs M → popc s 31 = popc s (vNs M) := fun s hs => popc_hi hs 31 (by omega)
  have val : ∀ s, aGb M s n po gn = match sL M gn po (vNs M) s with | none => -1 | some po' => nI (aNt M n 0 po' gn) := by
    intro s
    unfold aGb
    rw [sL_aSy (vNs M) 0 po rfl, Nat.zero_add]
    cases sL M gn po (vNs M) s <;> rfl
  have lt : ∀ q, aNt M n 0 q gn < 2 ^ 31 := by
    have : ∀ k acc q g, acc < 256 → aNt M k acc q g < 256 := by
      intro k
      induction k with
      | zero => intro acc q g h; exact h
      | succ k ih => intro acc q g h; exact ih _ _ _ (or256 h (aGs_lt hB _ _ _))
    intro q
    have := this n 0 q gn (by decide)
    omega
  have up : ∀ s, gGo M gn po n a s → aGb M s n po gn = nI a := by
    rintro s ⟨q, h1, h2⟩
    rw [val, sS_L _ _ h1]
    exact nIe h2
  have down : ∀ s, s < 2 ^ vNs M → aGb M s n po gn = nI a → gGo M gn po n a s ∨ ∃ s', s' < 2 ^ vNs M ∧ popc s' 31 < popc s 31 ∧ gGo M gn po n a s' := by
    intro s hs hg
    rw [val] at hg
    cases e : sL M gn po (vNs M) s with
    | none =>
      rw [e] at hg
      have hg : (-1 : Int32) = nI a := hg
      have := congrArg Int32.toInt hg
      rw [nI_toInt (by omega)] at this
      have h1 : (-1 : Int32).toInt = -1 := by decide
      omega
    | some q =>
      rw [e] at hg
      have hg : nI (aNt M n 0 q gn) = nI a := hg
      rw [nI_eq (lt q) (by omega)] at hg
      rcases sL_drop hB hC ht hT (vNs M) (Nat.le_refl _) q e with h1 | ⟨s', q', i1, i2, i3, i4⟩
      · exact Or.inl ⟨q, h1, hg⟩
      · exact Or.inr ⟨s', i1, by rw [h31 s' i1, h31 s hs]; exact i2, q', i3, by rw [aNt_po n 0 gn q' q i4]; exact hg⟩
  rcases h with ⟨h1, h2⟩ | ⟨bb, b1, b2, b3, b4⟩
  · refine Or.inl ⟨h1, fun s hs hg => ?_⟩
    rcases down s hs hg with z | ⟨s', z1, -, z3⟩
    · exact h2 s hs z
    · exact h2 s' z1 z3
  · refine Or.inr ⟨bb, b1, b2, up bb b3, fun s hs hg => ?_⟩
    rcases down s hs hg with z | ⟨s', z1, z2, z3⟩
    · exact b4 s hs z
    · have := b4 s' z1 z3
      omega
theorem sp_X11_fewest {x1 x2 : Int32} (hP0 : zPk P0) (hB : MB M) (hC : MC M) (hT : MT M) (ht : P0 0 2 = some t) (hR : tR M I0 t st b cd) (hV : sV P0 73 85 74 t M I0 po g gn) (hd : 7 ≤ d) {K : Int32 → zI → zL → zP → Prop}
    (k0 : ¬ (∃ a n, a < vN M ∧ 1 ≤ n ∧ n ≤ 12 ∧ x1 = nI a ∧ x2 = nI n) → K (-1) I0 L0 P0)
    (kk : ∀ a n, a < vN M → 1 ≤ n → n ≤ 12 → x1 = nI a → x2 = nI n → ∀ r I L P, tFr I0 I → cFl [120] L0 L → pFr P0 P → fBs (fun s => aGb M s n po gn = nI a) (2 ^ vNs M) r → K r I L P) : zMi zm_X11_fewest d [.ref 0, .int x1, .int x2] I0 L0 P0 K := by
  obtain ⟨d, rfl⟩ : ∃ e, d = e + 1 := ⟨d - 1, by omega⟩
  have h0 := hR.1.2.2
  have hnp := hR.1.2.1
  have hil := hR.1.1
  have hN : vN M ≤ 256 := pw8 hnp
  have hns := hC.1
  have h64 : 2 ^ vNs M ≤ 64 := Nat.pow_le_pow_right (n := 2) (by decide) hns
  have main : ∀ a n, a < vN M → 1 ≤ n → n ≤ 12 → (∀ r I L P, tFr I0 I → cFl [120] L0 L → pFr P0 P → fBs (gGo M gn po n a) (2 ^ vNs M) r → K r I L P) → ∀ x L, cFl [120] L0 L → nTd M gn po (vNs M) (2 ^ vNs M) x L → ∀ k c I P, c + k = vNs M + 1 → tFr I0 I → pFr P0 P → (∀ s, s < 2 ^ vNs M → popc s 31 < c → ¬ gGo M gn po n a s) → gw_X11_fewest (d + 1) (fun v I' L' P' nx' => nx' = 205 ∧ ∃ r, v = some (.int r) ∧ K r I' L' P') 32 [some (.ref 0), some (.int (nI a)), some (.int (nI n)), some (.long x), none, some (.int (nI c)), none, none] [] I L P := by
    intro a n ha hn1 hN12 hk x L hl hnt k
    induction k with
    | zero =>
      intro c I P hc hf hp hno
      have hP := pFr_k hp hP0
      have e4 := (tR_t hR hf).2.2.2.2.2.1.1
      refine g_X11_fewest_32 hP (by omega) ⟨t, by rw [hp 0 2 (by omega)]; exact ht, (il_P hil hP).1, fun _ => qi (hk _ I L P hf hl hp (Or.inl ⟨rfl, fun s hs => hno s hs ?_⟩)), fun z => absurd (by rw [e4]; exact nI_lt (by omega) (by omega)) z⟩
      rw [popc_hi hs 31 (by omega)]
      have := popc_le s (vNs M)
      omega
    | succ k ih =>
      intro c I P hc hf hp hno
      have hP := pFr_k hp hP0
      have e4 := (tR_t hR hf).2.2.2.2.2.1.1
      refine g_X11_fewest_32 hP (by omega) ⟨t, by rw [hp 0 2 (by omega)]; exact ht, (il_P hil hP).1, fun z => absurd z (by rw [e4]; exact nI_nlt (by omega) (by omega)), fun _ => ?_⟩
      have inner : ∀ j i J PP, i + j = 2 ^ vNs M → tFr I0 J → pFr P0 PP → (∀ s, s < i → popc s 31 = c → ¬ gGo M gn po n a s) → gw_X11_fewest (d + 1) (fun v I' L' P' nx' => nx' = 205 ∧ ∃ r, v = some (.int r) ∧ K r I' L' P') 47 [some (.ref 0), some (.int (nI a)), some (.int (nI n)), some (.long x), none, some (.int (nI c)), some (.int (nI i)), none] [] J L PP := by
        intro j
        induction j with
        | zero =>
          intro i J PP hi hfJ hpP hn2
          have hP2 := pFr_k hpP hP0
          have e5 := (tR_t hR hfJ).2.2.2.2.2.1.1
          have es : ((1 : Int32) <<< ((J t 4) &&& 31) : Int32) = nI (2 ^ vNs M) := by rw [e5, show (1 : Int32) = nI 1 from rfl, nx_shl (by omega) (by omega), Nat.one_mul]
          refine g_X11_fewest_47 hP2 (by omega) ⟨t, by rw [hpP 0 2 (by omega)]; exact ht, (il_P hil hP2).1, fun _ => ?_, fun z => absurd (by rw [es]; exact nI_le (by omega) (by omega)) z⟩
          rw [nI_1]
          refine ih (c + 1) J PP (by omega) hfJ hpP (fun s hs hsp => ?_)
          by_cases e : popc s 31 = c
          · exact hn2 s (by omega) e
          · exact hno s hs (by omega)
        | succ j ihj =>
          intro i J PP hi hfJ hpP hn2
          have hP2 := pFr_k hpP hP0
          have e5 := (tR_t hR hfJ).2.2.2.2.2.1.1
          have es : ((1 : Int32) <<< ((J t 4) &&& 31) : Int32) = nI (2 ^ vNs M) := by rw [e5, show (1 : Int32) = nI 1 from rfl, nx_shl (by omega) (by omega), Nat.one_mul]
          have hpc := popc_le i 31
          have nxt : ∀ J2 P2, tFr I0 J2 → pFr P0 P2 → (popc i 31 = c → ¬ gGo M gn po n a i) → gw_X11_fewest (d + 1) (fun v I' L' P' nx' => nx' = 205 ∧ ∃ r, v = some (.int r) ∧ K r I' L' P') 47 [some (.ref 0), some (.int (nI a)), some (.int (nI n)), some (.long x), none, some (.int (nI c)), some (.int (nI i + 1)), none] [] J2 L P2 := by
            intro J2 P2 g1 g2 g3
            rw [nI_1]
            refine ihj (i + 1) J2 P2 (by omega) g1 g2 (fun s hs hsp => ?_)
            rcases Nat.lt_succ_iff_lt_or_eq.mp hs with z | z
            · exact hn2 s z hsp
            · subst z; exact g3 hsp
          refine g_X11_fewest_47 hP2 (by omega) ⟨t, by rw [hpP 0 2 (by omega)]; exact ht, (il_P hil hP2).1, fun z => absurd z (by rw [es]; exact nI_ge (by omega) (by omega)), fun _ => ?_⟩
          refine sp_bitCount hP2 (by omega) ⟨fun z => ⟨fun _ => nxt J PP hfJ hpP (fun y => absurd (by rw [y]) z), fun y => absurd rfl y⟩, fun z => ?_⟩
          rw [nI_eq (by omega) (by omega)] at z
          have lb := hnt.1 i (by omega)
          refine ⟨fun y => ⟨fun _ => nxt J PP hfJ hpP (fun _ hg => ?_), fun y => absurd rfl y⟩, fun y => ⟨fun y2 => absurd y2 (by decide), fun _ => ?_⟩⟩
          · obtain ⟨q, hq, -⟩ := hg
            exact y (lb.mpr ⟨by omega, q, hq⟩)
          · obtain ⟨-, q, hq⟩ := lb.mp y
            refine sp_X11_goJust hP0 hT hR hV hfJ hpP hns hnt (show i < 2 ^ vNs M by omega) hq (by omega) hN12 (by omega) (fun J2 P2 g1 g2 => ⟨fun y2 => nxt J2 P2 g1 g2 (fun _ hg => ?_), fun y2 => qi ?_⟩)
            · obtain ⟨q', hq', hg⟩ := hg
              rw [hq] at hq'
              cases hq'
              exact (bP_0.mp y2) hg
            · rw [bP_n] at y2
              refine hk _ J2 L P2 g1 hl g2 (Or.inr ⟨i, by omega, rfl, ⟨q, hq, y2⟩, fun s hs hg => ?_⟩)
              by_cases e1 : popc s 31 < c
              · exact absurd hg (hno s hs e1)
              · by_cases e2 : popc s 31 = c
                · by_cases e3 : s < i
                  · exact absurd hg (hn2 s e3 e2)
                  · right; omega
                · left; omega
      exact inner (2 ^ vNs M) 0 I P (by omega) hf hp (fun s hs => absurd hs (Nat.not_lt_zero s))
  refine g_X11_fewest hP0 (by omega) ⟨t, ht, (il_P hil hP0).1, hil, by rw [h0]; exact nx_in (by omega) (by decide), ?_⟩
  rw [h0, nI_cl (by omega)]
  refine ⟨fun q => qi (k0 ?_), fun q => ⟨fun q1 => qi (k0 ?_), fun q1 => ⟨fun q2 => ?_, fun q2 => qi (k0 ?_)⟩⟩⟩
  · rw [bP_0] at q
    rintro ⟨a, n, h1, h2, h3, rfl, rfl⟩
    exact q (nx_in h1 (by have : 2 ^ vNp M ≤ 256 := hN; omega))
  · rintro ⟨a, n, h1, h2, h3, rfl, rfl⟩
    rw [show (1 : Int32) = nI 1 from rfl, nI_ltI (by omega) (by decide)] at q1
    omega
  · rw [bP_n] at q
    obtain ⟨a, ha, rfl⟩ := vp_in_of q (by have : 2 ^ vNp M ≤ 256 := hN; omega)
    have ha : a < vN M := ha
    obtain ⟨n, hn0, hn1, rfl⟩ := (rg_iff (lo := 1) (hi := 12) (by decide) (by decide)).mp ⟨q1, by rw [Int32.not_lt]; exact q2⟩
    refine sp_X11_trySayings hP0 hT ht hR hV (by omega) hns (fun x I L P g1 g2 g3 g4 => ?_)
    exact main a n ha hn0 hn1 (fun r I' L' P' z1 z2 z3 z4 => kk a n ha hn0 hn1 rfl rfl r I' L' P' z1 z2 z3 (fBs_g hB hC hT hV.2.2.2 (by omega) z4)) x L g2 g4 (vNs M + 1) 0 I P (by omega) g1 g3 (fun s _ hs => absurd hs (Nat.not_lt_zero _))
  · rintro ⟨a, n, h1, h2, h3, rfl, rfl⟩
    rw [show (12 : Int32) = nI 12 from rfl, nI_leI (by omega) (by decide)] at q2
    exact q2 h3
end GJ
