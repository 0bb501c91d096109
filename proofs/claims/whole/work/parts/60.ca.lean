/-! ===== the class: frames, scenes, lists of worlds ===== -/
/-- nothing but these cells has changed -/
def cFr (cs : List Nat) (I0 I : zI) : Prop := ∀ a, a ∉ cs → I a = I0 a
theorem cFr_rf (cs : List Nat) (I : zI) : cFr cs I I := fun _ _ => rfl
theorem cFr_tr {cs : List Nat} {I0 I1 I2 : zI} (h1 : cFr cs I0 I1) (h2 : cFr cs I1 I2) : cFr cs I0 I2 := fun a h => (h2 a h).trans (h1 a h)
theorem cFr_wk {cs cs' : List Nat} {I0 I1 : zI} (h : cFr cs I0 I1) (hc : ∀ a ∈ cs, a ∈ cs') : cFr cs' I0 I1 := fun a ha => h a (fun q => ha (hc a q))
theorem cFr_c {cs : List Nat} {I0 I : zI} {c k : Nat} {v : Int32} (h : cFr cs I0 I) (hc : c ∈ cs) : cFr cs I0 (zuI I c k v) :=
  fun a ha => (zuI_ne (show a ≠ c from fun e => ha (by rw [e]; exact hc))).trans (h a ha)
theorem cFr_a {cs : List Nat} {I0 I : zI} {c : Nat} {f : Nat → Int32} (h : cFr cs I0 I) (hc : c ∈ cs) : cFr cs I0 (zaI I c f) :=
  fun a ha => (zaI_ne (show a ≠ c from fun e => ha (by rw [e]; exact hc))).trans (h a ha)
theorem zuP_v (P : zP) (a k : Nat) (v : Option Nat) : zuP P a k v a k = v := by rw [zuP_at, va_up_self]
theorem zuP_o {P : zP} {a k j : Nat} {v : Option Nat} (h : j ≠ k) : zuP P a k v a j = P a j := by rw [zuP_at, va_up_ne _ _ h]
/-- a scene, its list, its views -/
def sc (s l v : Nat) : Prop := (s = 73 ∧ l = 85 ∧ v = 74) ∨ (s = 86 ∧ l = 87 ∧ v = 74) ∨ (s = 107 ∧ l = 119 ∧ v = 108) ∨ (s = 121 ∧ l = 133 ∧ v = 122) ∨ (s = 134 ∧ l = 146 ∧ v = 135) ∨ (s = 147 ∧ l = 159 ∧ v = 148)
def vw (v : Nat) : Prop := v = 74 ∨ v = 108 ∨ v = 122 ∨ v = 135 ∨ v = 148
theorem sc_v {s l v : Nat} (h : sc s l v) : vw v := by unfold sc at h; unfold vw; omega
theorem sc_P {s l v : Nat} {P : zP} (h : sc s l v) (hP : zPk P) : (s < 205 ∧ (zsh s).1 = 5) ∧ P s 2 = some l ∧ (l < 205 ∧ zsh l = (100, 256)) ∧ P s 0 = some v := by
  rcases h with ⟨rfl, rfl, rfl⟩ | ⟨rfl, rfl, rfl⟩ | ⟨rfl, rfl, rfl⟩ | ⟨rfl, rfl, rfl⟩ | ⟨rfl, rfl, rfl⟩ | ⟨rfl, rfl, rfl⟩ <;> exact ⟨⟨by decide, rfl⟩, hP _ _ _ (by decide +kernel), ⟨by decide, rfl⟩, hP _ _ _ (by decide +kernel)⟩
theorem vw_k : ∀ v, (v = 74 ∨ v = 108 ∨ v = 122 ∨ v = 135 ∨ v = 148) → (v < 205 ∧ (zsh v).1 = 9) ∧ zst v 0 = some (v + 1) ∧ (v + 1 < 205 ∧ zsh (v + 1) = (104, 8)) ∧ zst v 1 = some (v + 10) ∧ (v + 10 < 205 ∧ zsh (v + 10) = (100, 512)) ∧ ∀ p, p < 8 → zst (v + 1) p = some (v + 2 + p) ∧ (v + 2 + p < 205 ∧ zsh (v + 2 + p) = (100, 256)) := by
  rintro v (rfl | rfl | rfl | rfl | rfl) <;> decide +kernel
theorem vw_P {v : Nat} {P : zP} (h : vw v) (hP : zPk P) : (v < 205 ∧ (zsh v).1 = 9) ∧ P v 0 = some (v + 1) ∧ (v + 1 < 205 ∧ zsh (v + 1) = (104, 8)) ∧ P v 1 = some (v + 10) ∧ (v + 10 < 205 ∧ zsh (v + 10) = (100, 512)) ∧ ∀ p, p < 8 → P (v + 1) p = some (v + 2 + p) ∧ (v + 2 + p < 205 ∧ zsh (v + 2 + p) = (100, 256)) := by
  obtain ⟨h1, h2, h3, h4, h5, h6⟩ := vw_k v h
  exact ⟨h1, hP _ _ _ h2, h3, hP _ _ _ h4, h5, fun p hp => ⟨hP _ _ _ (h6 p hp).1, (h6 p hp).2⟩⟩
theorem rw_k : ∀ j, j < 44 → zst 24 j = some (25 + j) ∧ (25 + j < 205 ∧ zsh (25 + j) = (100, 256)) := by decide +kernel
theorem rw_s {r : Nat} (h : 25 ≤ r ∧ r ≤ 68) : r < 205 ∧ zsh r = (100, 256) := by
  have := (rw_k (r - 25) (by omega)).2
  rw [show 25 + (r - 25) = r by omega] at this
  exact this
/-- an island of the class -/
def il (t : Nat) : Prop := t = 5 ∨ t = 11
theorem il_k : ∀ t, (t = 5 ∨ t = 11) → (t < 205 ∧ (zsh t).1 = 2) ∧ (zst t 8 = some (t + 1) ∧ (t + 1 < 205 ∧ zsh (t + 1) = (101, 8))) ∧ (zst t 9 = some (t + 2) ∧ (t + 2 < 205 ∧ zsh (t + 2) = (100, 8))) ∧ (zst t 10 = some (t + 3) ∧ (t + 3 < 205 ∧ (zsh (t + 3)).1 = 0)) ∧ (zst (t + 3) 0 = some (t + 4) ∧ (t + 4 < 205 ∧ zsh (t + 4) = (100, 600))) ∧ (zst t 11 = some (t + 5) ∧ (t + 5 < 205 ∧ zsh (t + 5) = (100, 7))) := by
  rintro t (rfl | rfl) <;> decide +kernel
theorem il_P {t : Nat} {P : zP} (h : il t) (hP : zPk P) : (t < 205 ∧ (zsh t).1 = 2) ∧ (P t 8 = some (t + 1) ∧ (t + 1 < 205 ∧ zsh (t + 1) = (101, 8))) ∧ (P t 9 = some (t + 2) ∧ (t + 2 < 205 ∧ zsh (t + 2) = (100, 8))) ∧ (P t 10 = some (t + 3) ∧ (t + 3 < 205 ∧ (zsh (t + 3)).1 = 0)) ∧ (P (t + 3) 0 = some (t + 4) ∧ (t + 4 < 205 ∧ zsh (t + 4) = (100, 600))) ∧ (P t 11 = some (t + 5) ∧ (t + 5 < 205 ∧ zsh (t + 5) = (100, 7))) := by
  obtain ⟨h1, h2, h3, h4, h5, h6⟩ := il_k t h
  exact ⟨h1, ⟨hP _ _ _ h2.1, h2.2⟩, ⟨hP _ _ _ h3.1, h3.2⟩, ⟨hP _ _ _ h4.1, h4.2⟩, ⟨hP _ _ _ h5.1, h5.2⟩, ⟨hP _ _ _ h6.1, h6.2⟩⟩
/-! lists of worlds -/
def cL (l : Nat) (I : zI) (xs : List Nat) : Prop := ∀ i w, xs[i]? = some w → I l i = nI w
def cS (s l : Nat) (I : zI) (xs : List Nat) : Prop := I s 3 = nI xs.length ∧ xs.length ≤ 256 ∧ (∀ w ∈ xs, w < 256) ∧ cL l I xs
theorem cS_c {s l : Nat} {I I' : zI} {xs : List Nat} (h : cS s l I xs) (h1 : I' s 3 = I s 3) (h2 : I' l = I l) : cS s l I' xs :=
  ⟨by rw [h1]; exact h.1, h.2.1, h.2.2.1, fun i w hw => by rw [h2]; exact h.2.2.2 i w hw⟩
theorem cS_end {s l : Nat} {I : zI} {xs : List Nat} (h : cS s l I xs) : I s 3 ≤ nI xs.length := by
  rw [h.1]; exact nI_le (Nat.le_refl _) (by have := h.2.1; omega)
theorem cS_on {s l : Nat} {I : zI} {xs zs ys : List Nat} {w : Nat} (h : cS s l I xs) (e : xs = zs ++ w :: ys) : ¬ I s 3 ≤ nI zs.length ∧ vp_in (nI zs.length) 256 ∧ I l (nI zs.length).toNatClampNeg = nI w ∧ w < 256 ∧ (nI w).toNatClampNeg = w ∧ vp_in (nI w) 256 ∧ w ∈ xs ∧ nI zs.length + 1 = nI (zs ++ [w]).length ∧ zs.length < 256 := by
  have hl : xs.length = zs.length + (ys.length + 1) := by rw [e, List.length_append, List.length_cons]
  have h2 := h.2.1
  have hm : w ∈ xs := by rw [e]; simp
  have hw := h.2.2.1 w hm
  refine ⟨?_, nx_in (by omega) (by decide), ?_, hw, nI_cl (by omega), nx_in hw (by decide), hm, ?_, by omega⟩
  · rw [h.1]; exact nI_ge (by omega) (by omega)
  · rw [nI_cl (by omega)]; exact h.2.2.2 _ _ (by rw [e]; simp)
  · rw [nI_1, List.length_append]; rfl
theorem nil_len : (0 : Int32) = nI ([] : List Nat).length := rfl
abbrev gw_X6_contains (d : Nat) (Q : zQt) (pc : Nat) (lv : zV) (st : List Value) (I : zI) (L : zL) (P : zP) : Prop := zW zm_X6_contains (zRm d 0 0) 0 0 Q pc lv st I L P 205 0 0
abbrev v_X6_contains_2 (d : Nat) (Q : zQt) (a : Nat) (p1 : Int32) (x2 : Int32) (I : zI) (L : zL) (P : zP) : Prop :=
  (a < 205 ∧ (zsh a).1 = 5) ∧
  (((I a 3) ≤ x2 →
    Q (some (.int 0)) I L P 205
  ) ∧ (¬ (I a 3) ≤ x2 →
    ∃ b3 : Nat, P a 2 = some b3 ∧
    ∃ n6, (b3 < 205 ∧ zsh b3 = (100, n6)) ∧
    vp_in x2 n6 ∧
    ((¬ (I b3 x2.toNatClampNeg) = p1 →
      gw_X6_contains d Q 2 [some (.ref a), some (.int p1), some (.int (x2 + 1))] [] I L P
    ) ∧ ((I b3 x2.toNatClampNeg) = p1 →
      Q (some (.int 1)) I L P 205
    ))
  ))
set_option maxRecDepth 20000 in
theorem g_X6_contains_2 {d : Nat} {Q : zQt} {a : Nat} {p1 : Int32} {x2 : Int32} {I : zI} {L : zL} {P : zP} (hP : zPk P) (hv : v_X6_contains_2 d Q a p1 x2 I L P) : gw_X6_contains d Q 2 [some (.ref a), some (.int p1), some (.int x2)] [] I L P := by
  unfold v_X6_contains_2 at hv
  refine z_iload_n dX6_contains_2 rfl ?_
  refine z_aload_n dX6_contains_3 rfl ?_
  obtain ⟨h1, hv⟩ := hv
  refine z_getI dX6_contains_4 zf_X6_17 h1.1 h1.2 (fun _ _ _ _ _ => rfl) ?_
  refine z_icmp_ge (tgt := 28) dX6_contains_7 (by decide) (fun q2 => ?_) (fun q2 => ?_)
  · have hv := hv.1 q2
    refine z_iconst (v := 0) dX6_contains_28 (by decide) ?_
    exact z_ireturn dX6_contains_29 rfl (by decide) (Nat.le_refl _) (Nat.le_refl _) hv
  · have hv := hv.2 q2
    refine z_aload_n dX6_contains_10 rfl ?_
    obtain ⟨b3, h4, hv⟩ := hv
    refine z_getP dX6_contains_11 zf_X6_11 h1.1 h1.2 (fun _ _ _ _ _ => rfl) h4 ?_
    refine z_iload_n dX6_contains_14 rfl ?_
    obtain ⟨n6, h5, hv⟩ := hv
    obtain ⟨h7, hv⟩ := hv
    refine z_iaload dX6_contains_15 h5.1 h5.2 h7 ?_
    refine z_iload_n dX6_contains_16 rfl ?_
    refine z_icmp_ne (tgt := 22) dX6_contains_17 (by decide) (fun q8 => ?_) (fun q8 => ?_)
    · have hv := hv.1 q8
      refine z_iinc (v2 := x2 + 1) (lv2 := [some (.ref a), some (.int p1), some (.int (x2 + 1))]) dX6_contains_22 rfl (by rfl) (by decide) rfl rfl ?_
      refine z_goto (tgt := 2) dX6_contains_25 (by decide) ?_
      exact hv
    · have hv := hv.2 q8
      refine z_iconst (v := 1) dX6_contains_20 (by decide) ?_
      exact z_ireturn dX6_contains_21 rfl (by decide) (Nat.le_refl _) (Nat.le_refl _) hv
abbrev v_X6_contains (d : Nat) (Q : zQt) (a : Nat) (p1 : Int32) (I : zI) (L : zL) (P : zP) : Prop :=
  gw_X6_contains d Q 2 [some (.ref a), some (.int p1), some (.int 0)] [] I L P
set_option maxRecDepth 20000 in
theorem g_X6_contains {d : Nat} {Q : zQt} {a : Nat} {p1 : Int32} {I : zI} {L : zL} {P : zP} (hP : zPk P) (hv : v_X6_contains d Q a p1 I L P) : zM zm_X6_contains d 0 0 [.ref a, .int p1] I L P 205 Q := by
  unfold v_X6_contains at hv
  refine zM_of (lv0 := [some (.ref a), some (.int p1), none]) (by decide +kernel) (Nat.le_of_ble_eq_true rfl) rfl ?_
  refine z_iconst (v := 0) dX6_contains_0 (by decide) ?_
  refine z_istore_n (lv2 := [some (.ref a), some (.int p1), some (.int 0)]) dX6_contains_1 (by decide) rfl rfl ?_
  exact hv
theorem lp_X6_contains {d : Nat} {Q : zQt} {I : zI} {L : zL} {P : zP} {s l v : Nat} {xs : List Nat} {w : Int32} (hP : zPk P) (hsc : sc s l v) (hS : cS s l I xs) (kk : Q (some (.int (bP (∃ x ∈ xs, nI x = w)))) I L P 205) :
    ∀ ys zs, xs = zs ++ ys → (∀ x ∈ zs, ¬ nI x = w) → gw_X6_contains d Q 2 [some (.ref s), some (.int w), some (.int (nI zs.length))] [] I L P := by
  obtain ⟨p1, p2, p3, p4⟩ := sc_P hsc hP
  intro ys
  induction ys with
  | nil =>
    intro zs e hz
    rw [List.append_nil] at e
    subst e
    refine g_X6_contains_2 hP ⟨p1, fun _ => ?_, fun q => absurd (cS_end hS) q⟩
    rwa [bP_f (fun ⟨x, hx, ex⟩ => hz x hx ex)] at kk
  | cons x ys ih =>
    intro zs e hz
    obtain ⟨a1, a2, a3, a4, a5, a6, a7, a8, a9⟩ := cS_on hS e
    refine g_X6_contains_2 hP ⟨p1, fun q => absurd q a1, fun _ => ⟨l, p2, 256, p3, a2, fun q => ?_, fun q => ?_⟩⟩
    · rw [a3] at q
      rw [a8]
      refine ih (zs ++ [x]) (by rw [e, List.append_assoc]; rfl) (fun y hy => ?_)
      rcases List.mem_append.mp hy with h | h
      · exact hz y h
      · rw [List.mem_singleton.mp h]; exact q
    · rw [a3] at q
      rwa [bP_t ⟨x, a7, q⟩] at kk
theorem sp_X6_contains {d : Nat} {I : zI} {L : zL} {P : zP} {s l v : Nat} {xs : List Nat} {w : Int32} (hP : zPk P) (hsc : sc s l v) (hS : cS s l I xs) {K : Int32 → zI → zL → zP → Prop} (kk : K (bP (∃ x ∈ xs, nI x = w)) I L P) : zMi zm_X6_contains d [.ref s, .int w] I L P K :=
  g_X6_contains hP (lp_X6_contains hP hsc hS (qi kk) xs [] rfl (fun x hx => absurd hx (by simp)))
