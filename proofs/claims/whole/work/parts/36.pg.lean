/-! ===== the model's formula on the heap ===== -/
abbrev mC : List Nat := [166, 175, 176, 177, 178, 179]
abbrev mL : List Nat := [4, 5, 6, 7, 8, 9, 32, 33, 34]
def mJ (I0 : zI) (L0 : zL) (b R ua : Nat) (I : zI) (L : zL) : Prop := zFr mC mL I0 I ∧ zLn L0 L ∧ (∀ k, ¬ (b ≤ k ∧ k < b + R) → I 175 k = I0 175 k ∧ I 176 k = I0 176 k) ∧ ∀ k, k ≠ ua → I 166 k = I0 166 k
def stk (I : zI) : List Ent → Prop
  | [] => True
  | q :: S => (I 177 S.length = nI q.1 ∧ I 178 S.length = nI q.2.1 ∧ I 179 S.length = q.2.2) ∧ stk I S
theorem stk_c {I I' : zI} : ∀ {S : List Ent}, (∀ k, k < S.length → I' 177 k = I 177 k ∧ I' 178 k = I 178 k ∧ I' 179 k = I 179 k) → stk I S → stk I' S
  | [], _, _ => trivial
  | q :: S, h, hs => by
    have e := h S.length (by simp)
    refine ⟨by rw [e.1, e.2.1, e.2.2]; exact hs.1, stk_c (fun k hk => h k (by simp; omega)) hs.2⟩
/-- the machine's state on the heap; g and p are the fault's kind and place -/
def mN (I0 : zI) (L0 : zL) (T : Nat → Int32) (n b R ua : Nat) (g p : Int32) (I : zI) (L : zL) (S : List Ent) (w e u : Nat) (c : List (Int32 × Int32)) : Prop :=
  mJ I0 L0 b R ua I L ∧ pS T n I L e ∧ (I 160 4 = g ∧ I 160 5 = p) ∧ (I 160 34 = nI S.length ∧ stk I S) ∧ I 160 33 = nI w ∧ (I 160 32 = nI (b + c.length) ∧ vCd I b c.length = c) ∧ I 166 ua = nI u
theorem vCd_app (I : zI) : ∀ m fr, vCd I fr (m + 1) = vCd I fr m ++ [(I 175 (fr + m), I 176 (fr + m))]
  | 0, _ => rfl
  | m + 1, fr => by
    show (I 175 fr, I 176 fr) :: vCd I (fr + 1) (m + 1) = (I 175 fr, I 176 fr) :: (vCd I (fr + 1) m ++ _)
    rw [vCd_app I m (fr + 1), show fr + 1 + m = fr + (m + 1) by omega]
theorem vCd_k {I I' : zI} : ∀ m fr, (∀ k, fr ≤ k → k < fr + m → I' 175 k = I 175 k ∧ I' 176 k = I 176 k) → vCd I' fr m = vCd I fr m
  | 0, _, _ => rfl
  | m + 1, fr, h => by
    have e := h fr (by omega) (by omega)
    unfold vCd
    rw [e.1, e.2, vCd_k m (fr + 1) (fun k a b => h k (by omega) (by omega))]
section MN
variable {I0 : zI} {L0 : zL} {T : Nat → Int32} {n b R ua : Nat} {g p : Int32} {I : zI} {L : zL} {S : List Ent} {w e u : Nat} {c : List (Int32 × Int32)}
theorem mJ_rf (I0 : zI) (L0 : zL) (b R ua : Nat) : mJ I0 L0 b R ua I0 L0 := ⟨zFr_rf _ _ _, zLn_rf _, fun _ _ => ⟨rfl, rfl⟩, fun _ _ => rfl⟩
/-- slots alone have changed -/
theorem mJ_sl {I' : zI} {L' : zL} (h : mJ I0 L0 b R ua I L) (hf : zFr [] mL I I') (hL : zLn L L') : mJ I0 L0 b R ua I' L' :=
  ⟨zFr_tr h.1 (zFr_wk hf (by decide) (by decide)), zLn_tr h.2.1 hL, fun k hk => by rw [hf.1 175 (by decide) (by decide), hf.1 176 (by decide) (by decide)]; exact h.2.2.1 k hk, fun k hk => by rw [hf.1 166 (by decide) (by decide)]; exact h.2.2.2 k hk⟩
theorem mN_go {I' : zI} {L' : zL} {e' : Nat} (h : mN I0 L0 T n b R ua g p I L S w e u c) (hf : zFr [] gS I I') (hL : zLn L L') (hp : pS T n I' L' e') : mN I0 L0 T n b R ua g p I' L' S w e' u c := by
  obtain ⟨h1, h2, h3, h4, h5, h6, h7⟩ := h
  refine ⟨mJ_sl h1 (zFr_wk hf (by decide) (by decide)) hL, hp, ?_, ⟨?_, ?_⟩, ?_, ⟨?_, ?_⟩, ?_⟩
  · rw [hf.2 4 (by decide), hf.2 5 (by decide)]; exact h3
  · rw [hf.2 34 (by decide)]; exact h4.1
  · exact stk_c (fun k _ => by rw [hf.1 177 (by decide) (by decide), hf.1 178 (by decide) (by decide), hf.1 179 (by decide) (by decide)]; exact ⟨rfl, rfl, rfl⟩) h4.2
  · rw [hf.2 33 (by decide)]; exact h5
  · rw [hf.2 32 (by decide)]; exact h6.1
  · rw [vCd_c (hf.1 175 (by decide) (by decide)) (hf.1 176 (by decide) (by decide))]; exact h6.2
  · rw [hf.1 166 (by decide) (by decide)]; exact h7
theorem mN_ft (k q : Nat) (h : mN I0 L0 T n b R ua g p I L S w e u c) : mN I0 L0 T n b R ua (nI k) (nI q) (pFt I k q) L S w e u c := by
  obtain ⟨h1, h2, h3, h4, h5, h6, h7⟩ := h
  have hf := pFt_fr I k q
  refine ⟨mJ_sl h1 (zFr_wk hf (by decide) (by decide)) (zLn_rf L), pS_fr h2 hf (by decide) (by decide) (by decide) (by decide) (by decide) (by decide) rfl, pFt_v I k q, ⟨?_, ?_⟩, ?_, ⟨?_, ?_⟩, ?_⟩
  · rw [hf.2 34 (by decide)]; exact h4.1
  · exact stk_c (fun k _ => by rw [hf.1 177 (by decide) (by decide), hf.1 178 (by decide) (by decide), hf.1 179 (by decide) (by decide)]; exact ⟨rfl, rfl, rfl⟩) h4.2
  · rw [hf.2 33 (by decide)]; exact h5
  · rw [hf.2 32 (by decide)]; exact h6.1
  · rw [vCd_c (hf.1 175 (by decide) (by decide)) (hf.1 176 (by decide) (by decide))]; exact h6.2
  · rw [hf.1 166 (by decide) (by decide)]; exact h7
theorem mN_w {w' : Nat} (h : mN I0 L0 T n b R ua g p I L S w e u c) : mN I0 L0 T n b R ua g p (zuI I 160 33 (nI w')) L S w' e u c := by
  obtain ⟨h1, h2, h3, h4, h5, h6, h7⟩ := h
  have hf : zFr [] [33] I (zuI I 160 33 (nI w')) := zFr_s (zFr_rf _ _ _) (by decide)
  refine ⟨mJ_sl h1 (zFr_wk hf (by decide) (by decide)) (zLn_rf L), pS_fr h2 hf (by decide) (by decide) (by decide) (by decide) (by decide) (by decide) rfl, ?_, ⟨?_, ?_⟩, zuI_v _ _ _ _, ⟨?_, ?_⟩, ?_⟩
  · rw [hf.2 4 (by decide), hf.2 5 (by decide)]; exact h3
  · rw [hf.2 34 (by decide)]; exact h4.1
  · exact stk_c (fun k _ => by rw [hf.1 177 (by decide) (by decide), hf.1 178 (by decide) (by decide), hf.1 179 (by decide) (by decide)]; exact ⟨rfl, rfl, rfl⟩) h4.2
  · rw [hf.2 32 (by decide)]; exact h6.1
  · rw [vCd_c (hf.1 175 (by decide) (by decide)) (hf.1 176 (by decide) (by decide))]; exact h6.2
  · rw [hf.1 166 (by decide) (by decide)]; exact h7
theorem mN_u {u' : Nat} (h : mN I0 L0 T n b R ua g p I L S w e u c) : mN I0 L0 T n b R ua g p (zuI I 166 ua (nI u')) L S w e u' c := by
  obtain ⟨h1, h2, h3, h4, h5, h6, h7⟩ := h
  have hf : zFr [166] [] I (zuI I 166 ua (nI u')) := zFr_c (zFr_rf _ _ _) (by decide) (by decide)
  refine ⟨⟨zFr_tr h1.1 (zFr_wk hf (by decide) (by decide)), h1.2.1, fun k hk => ?_, fun k hk => ?_⟩, pS_fr h2 hf (by decide) (by decide) (by decide) (by decide) (by decide) (by decide) rfl, ?_, ⟨?_, ?_⟩, ?_, ⟨?_, ?_⟩, zuI_v _ _ _ _⟩
  · rw [hf.1 175 (by decide) (by decide), hf.1 176 (by decide) (by decide)]; exact h1.2.2.1 k hk
  · rw [zuI_o hk]; exact h1.2.2.2 k hk
  · rw [hf.2 4 (by decide), hf.2 5 (by decide)]; exact h3
  · rw [hf.2 34 (by decide)]; exact h4.1
  · exact stk_c (fun k _ => by rw [hf.1 177 (by decide) (by decide), hf.1 178 (by decide) (by decide), hf.1 179 (by decide) (by decide)]; exact ⟨rfl, rfl, rfl⟩) h4.2
  · rw [hf.2 33 (by decide)]; exact h5
  · rw [hf.2 32 (by decide)]; exact h6.1
  · rw [vCd_c (hf.1 175 (by decide) (by decide)) (hf.1 176 (by decide) (by decide))]; exact h6.2
theorem mN_em {d : Nat} {P : zP} {a v : Int32} (hP : zPk P) (hR : c.length < R) (hb : b + R ≤ 2100) (h : mN I0 L0 T n b R ua g p I L S w e u c) {K : zI → zL → zP → Prop} (kk : ∀ I', mN I0 L0 T n b R ua g p I' L S w e u (c ++ [(a, v)]) → K I' L P) : zMv zm_X12_emit d [.ref 160, .int a, .int v] I L P K := by
  obtain ⟨h1, h2, h3, h4, h5, h6, h7⟩ := h
  refine sp_X12_emit (m := b + c.length) hP (by omega) h6.1 (kk _ ?_)
  have hf : zFr [175, 176] [32] I (zuI (zuI (zuI I 175 (b + c.length) a) 176 (b + c.length) v) 160 32 (nI (b + c.length + 1))) := zFr_s (zFr_c (zFr_c (zFr_rf _ _ _) (by decide) (by decide)) (by decide) (by decide)) (by decide)
  have e175 : ∀ k, (zuI (zuI (zuI I 175 (b + c.length) a) 176 (b + c.length) v) 160 32 (nI (b + c.length + 1))) 175 k = if k = b + c.length then a else I 175 k := by
    intro k
    rw [zuI_ne (by decide), zuI_ne (by decide)]
    by_cases q : k = b + c.length
    · rw [if_pos q, q, zuI_v]
    · rw [if_neg q, zuI_o q]
  have e176 : ∀ k, (zuI (zuI (zuI I 175 (b + c.length) a) 176 (b + c.length) v) 160 32 (nI (b + c.length + 1))) 176 k = if k = b + c.length then v else I 176 k := by
    intro k
    rw [zuI_ne (by decide)]
    by_cases q : k = b + c.length
    · rw [if_pos q, q, zuI_v]
    · rw [if_neg q, zuI_o q, zuI_ne (by decide)]
  have e32 : (zuI (zuI (zuI I 175 (b + c.length) a) 176 (b + c.length) v) 160 32 (nI (b + c.length + 1))) 160 32 = nI (b + c.length + 1) := zuI_v _ _ _ _
  generalize zuI (zuI (zuI I 175 (b + c.length) a) 176 (b + c.length) v) 160 32 (nI (b + c.length + 1)) = I' at hf e175 e176 e32
  refine ⟨⟨zFr_tr h1.1 (zFr_wk hf (by decide) (by decide)), h1.2.1, fun k hk => ?_, fun k hk => ?_⟩, pS_fr h2 hf (by decide) (by decide) (by decide) (by decide) (by decide) (by decide) rfl, ?_, ⟨?_, ?_⟩, ?_, ⟨?_, ?_⟩, ?_⟩
  · rw [e175, e176, if_neg (by omega), if_neg (by omega)]; exact h1.2.2.1 k hk
  · rw [hf.1 166 (by decide) (by decide)]; exact h1.2.2.2 k hk
  · rw [hf.2 4 (by decide), hf.2 5 (by decide)]; exact h3
  · rw [hf.2 34 (by decide)]; exact h4.1
  · exact stk_c (fun k _ => by rw [hf.1 177 (by decide) (by decide), hf.1 178 (by decide) (by decide), hf.1 179 (by decide) (by decide)]; exact ⟨rfl, rfl, rfl⟩) h4.2
  · rw [hf.2 33 (by decide)]; exact h5
  · rw [e32]; exact nIe (by simp; omega)
  · rw [List.length_append, List.length_singleton, vCd_app, e175, e176, if_pos rfl, if_pos rfl, vCd_k (I := I) (I' := I') _ _ (fun k a b => by rw [e175, e176, if_neg (by omega), if_neg (by omega)]; exact ⟨rfl, rfl⟩), h6.2]
  · rw [hf.1 166 (by decide) (by decide)]; exact h7
theorem mN_pu {d : Nat} {P : zP} {a s : Nat} {v : Int32} (hP : zPk P) (hS : S.length < 90) (h : mN I0 L0 T n b R ua g p I L S w e u c) {K : zI → zL → zP → Prop} (kk : ∀ I', mN I0 L0 T n b R ua g p I' L ((a, s, v) :: S) w e u c → K I' L P) : zMv zm_X12_pushE d [.ref 160, .int (nI a), .int (nI s), .int v] I L P K := by
  obtain ⟨h1, h2, h3, h4, h5, h6, h7⟩ := h
  refine sp_X12_pushE (m := S.length) hP hS h4.1 (kk _ ?_)
  have hf : zFr [177, 178, 179] [34] I (zuI (zuI (zuI (zuI I 177 S.length (nI a)) 178 S.length (nI s)) 179 S.length v) 160 34 (nI (S.length + 1))) := zFr_s (zFr_c (zFr_c (zFr_c (zFr_rf _ _ _) (by decide) (by decide)) (by decide) (by decide)) (by decide) (by decide)) (by decide)
  have e177 : (zuI (zuI (zuI (zuI I 177 S.length (nI a)) 178 S.length (nI s)) 179 S.length v) 160 34 (nI (S.length + 1))) 177 S.length = nI a := by rw [zuI_ne (by decide), zuI_ne (by decide), zuI_ne (by decide), zuI_v]
  have e178 : (zuI (zuI (zuI (zuI I 177 S.length (nI a)) 178 S.length (nI s)) 179 S.length v) 160 34 (nI (S.length + 1))) 178 S.length = nI s := by rw [zuI_ne (by decide), zuI_ne (by decide), zuI_v]
  have e179 : (zuI (zuI (zuI (zuI I 177 S.length (nI a)) 178 S.length (nI s)) 179 S.length v) 160 34 (nI (S.length + 1))) 179 S.length = v := by rw [zuI_ne (by decide), zuI_v]
  have eo : ∀ k, k < S.length → (zuI (zuI (zuI (zuI I 177 S.length (nI a)) 178 S.length (nI s)) 179 S.length v) 160 34 (nI (S.length + 1))) 177 k = I 177 k ∧ (zuI (zuI (zuI (zuI I 177 S.length (nI a)) 178 S.length (nI s)) 179 S.length v) 160 34 (nI (S.length + 1))) 178 k = I 178 k ∧ (zuI (zuI (zuI (zuI I 177 S.length (nI a)) 178 S.length (nI s)) 179 S.length v) 160 34 (nI (S.length + 1))) 179 k = I 179 k := by
    intro k hk
    refine ⟨?_, ?_, ?_⟩
    · rw [zuI_ne (by decide), zuI_ne (by decide), zuI_ne (by decide), zuI_o (by omega)]
    · rw [zuI_ne (by decide), zuI_ne (by decide), zuI_o (by omega), zuI_ne (by decide)]
    · rw [zuI_ne (by decide), zuI_o (by omega), zuI_ne (by decide), zuI_ne (by decide)]
  have e34 : (zuI (zuI (zuI (zuI I 177 S.length (nI a)) 178 S.length (nI s)) 179 S.length v) 160 34 (nI (S.length + 1))) 160 34 = nI (S.length + 1) := zuI_v _ _ _ _
  generalize zuI (zuI (zuI (zuI I 177 S.length (nI a)) 178 S.length (nI s)) 179 S.length v) 160 34 (nI (S.length + 1)) = I' at hf e177 e178 e179 eo e34
  refine ⟨⟨zFr_tr h1.1 (zFr_wk hf (by decide) (by decide)), h1.2.1, fun k hk => ?_, fun k hk => ?_⟩, pS_fr h2 hf (by decide) (by decide) (by decide) (by decide) (by decide) (by decide) rfl, ?_, ⟨?_, ⟨⟨e177, e178, e179⟩, stk_c eo h4.2⟩⟩, ?_, ⟨?_, ?_⟩, ?_⟩
  · rw [hf.1 175 (by decide) (by decide), hf.1 176 (by decide) (by decide)]; exact h1.2.2.1 k hk
  · rw [hf.1 166 (by decide) (by decide)]; exact h1.2.2.2 k hk
  · rw [hf.2 4 (by decide), hf.2 5 (by decide)]; exact h3
  · rw [e34]; rfl
  · rw [hf.2 33 (by decide)]; exact h5
  · rw [hf.2 32 (by decide)]; exact h6.1
  · rw [vCd_c (hf.1 175 (by decide) (by decide)) (hf.1 176 (by decide) (by decide))]; exact h6.2
  · rw [hf.1 166 (by decide) (by decide)]; exact h7
/-- the top is taken away -/
theorem mN_po {q : Ent} (hS : S.length < 90) (h : mN I0 L0 T n b R ua g p I L (q :: S) w e u c) : mN I0 L0 T n b R ua g p (zuI I 160 34 (I 160 34 - 1)) L S w e u c ∧ I 160 34 - 1 = nI S.length ∧ (zuI I 160 34 (I 160 34 - 1)) 160 34 = nI S.length := by
  obtain ⟨h1, h2, h3, h4, h5, h6, h7⟩ := h
  have e34 : I 160 34 - 1 = nI S.length := by
    rw [h4.1, List.length_cons, show (1 : Int32) = nI 1 from rfl, pk_sub (by omega)]
    exact nIe (by omega)
  have hf : zFr [] [34] I (zuI I 160 34 (I 160 34 - 1)) := zFr_s (zFr_rf _ _ _) (by decide)
  refine ⟨⟨mJ_sl h1 (zFr_wk hf (by decide) (by decide)) (zLn_rf L), pS_fr h2 hf (by decide) (by decide) (by decide) (by decide) (by decide) (by decide) rfl, ?_, ⟨?_, ?_⟩, ?_, ⟨?_, ?_⟩, ?_⟩, e34, ?_⟩
  · rw [hf.2 4 (by decide), hf.2 5 (by decide)]; exact h3
  · rw [zuI_v]; exact e34
  · exact stk_c (fun k _ => by rw [hf.1 177 (by decide) (by decide), hf.1 178 (by decide) (by decide), hf.1 179 (by decide) (by decide)]; exact ⟨rfl, rfl, rfl⟩) h4.2.2
  · rw [hf.2 33 (by decide)]; exact h5
  · rw [hf.2 32 (by decide)]; exact h6.1
  · rw [vCd_c (hf.1 175 (by decide) (by decide)) (hf.1 176 (by decide) (by decide))]; exact h6.2
  · rw [hf.1 166 (by decide) (by decide)]; exact h7
  · rw [zuI_v]; exact e34
end MN
