/-! ===== z, 8: arrays of arrays ===== -/
theorem arrV_cg {c : ClassId} {N : Nat} {f g : Nat → Value} (h : ∀ j, j < N → f j = g j) : arrV c N f = arrV c N g := by
  unfold arrV
  congr 1
  apply Array.ext
  · simp
  · intro i h1 h2
    simp only [Array.getElem_ofFn]
    exact h i (by simpa using h1)
theorem zws_app {G : zG} {I : zI} {L : zL} {P : zP} {nx : Nat} : ∀ n, zws G I L P (nx + n) = zws G I L P nx ++ (List.range n).map (fun j => (G.1 + (nx + j), zE G I L P (nx + j)))
  | 0 => by simp
  | n + 1 => by
    rw [show nx + (n + 1) = nx + n + 1 from rfl, ← zws_push, zws_app n, List.range_succ, List.map_append, List.append_assoc]
    rfl
section ZMU
variable {y : zY} {R : Room} {mc ms : Nat} {Q : zQt} {pc : Nat} {lv : zV} {st : List Value} {I : zI} {L : zL} {P : zP} {nx cs sl : Nat}
set_option maxHeartbeats 1000000 in
theorem z_multi {N M idx : Nat} {n k : Int32} {P' : zP} (h : decode y.2.1 pc = .ok (.multianewarray idx 2, 4)) (hw : Cond.classLink y.1.cls idx ("[" ++ (FieldType.array .int).toString) ∈ zTb) (hwa : Cond.arrayClass .int ∈ zTb) (hnx : nx + N < 205) (hs : zsh nx = (104, N)) (hsi : ∀ j, j < N → zsh (nx + 1 + j) = (100, M)) (hn0 : ¬ n < 0) (hn : n.toNatClampNeg = N) (hk0 : ¬ k < 0) (hk : k.toNatClampNeg = M) (hN : N * 4 ≤ 536870912) (hM : M * 4 ≤ 536870912) (hF : zFz nx I L P)
    (hP1 : ∀ b, b ≠ nx → P' b = P b) (hP2 : ∀ j, j < N → P' nx j = some (nx + 1 + j)) (hcs : cs + (1 + N) ≤ R.cells) (hsl : sl + (N + N * M) ≤ R.slots)
    (kk : zW y R mc ms Q (pc + 4) lv (.ref nx :: st) I L P' (nx + 1 + N) (cs + 1 + N) (sl + N + N * M)) : zW y R mc ms Q pc lv (.int k :: .int n :: st) I L P nx cs sl := by
  intro G p l e s m args below meth c0 H locs ls C hR hS hl
  have hts := C.2.2.2.2.2.1
  have hK := C.2.2.2.2.2.2.2.2.1.1
  have hz1 : H.size = G.1 + nx := hR.1 (by omega)
  subst hn
  subst hk
  refine mu_W C.1 C.2.1 (own := y.1.cls) (index := idx) C.2.2.2.2.1 (hts _ hw) C.2.2.2.2.2.2.2.2.1.2.2.2.2 (hts _ hwa) (g := F0 m pc ls (.int k :: .int n :: st.map (ztr G))) rfl h rfl hn0 hk0 hN hM hcs hsl (fun cA cB hfA hfC => ?_)
  have hcA : G.2.2.1 104 = cA := Option.some.inj ((show s.vm.findClass ("[" ++ (FieldType.array .int).toString) = some (G.2.2.1 104) from (hK.2 4 (G.2.2.1 104, .array .int) rfl).2).symm.trans hfA)
  have hcB : G.2.2.1 100 = cB := Option.some.inj ((show s.vm.findClass (FieldType.array .int).toString = some (G.2.2.1 100) from (hK.2 0 (G.2.2.1 100, .int) rfl).2).symm.trans hfC)
  subst hcA
  subst hcB
  generalize hH : H.push (mu_o (G.2.2.1 104) n.toNatClampNeg H.size n.toNatClampNeg) ++ Array.replicate n.toNatClampNeg (mu_r (G.2.2.1 100) k.toNatClampNeg) = H2
  have f1 : H2.size = H.size + 1 + n.toNatClampNeg := by
    rw [← hH]
    simp
  have f2 : H2[H.size]? = some (mu_o (G.2.2.1 104) n.toNatClampNeg H.size n.toNatClampNeg) := by
    rw [← hH, Array.getElem?_append, if_pos (by rw [Array.size_push]; omega), Array.getElem?_push, if_pos rfl]
  have f3 : ∀ q, q < H.size → H2[q]? = H[q]? := fun q hq => by
    rw [← hH, Array.getElem?_append, if_pos (by rw [Array.size_push]; omega), Array.getElem?_push, if_neg (by omega)]
  have f4 : ∀ q, q < n.toNatClampNeg → H2[H.size + 1 + q]? = some (mu_r (G.2.2.1 100) k.toNatClampNeg) := fun q hq => by
    rw [← hH, Array.getElem?_append, if_neg (by rw [Array.size_push]; omega), Array.getElem?_replicate, if_pos (by rw [Array.size_push]; omega)]
  have hRn : zRel G I L P' (nx + 1 + n.toNatClampNeg) H2 := by
    refine ⟨fun _ => by rw [f1, hz1]; omega, by omega, ?_⟩
    rw [show nx + 1 + n.toNatClampNeg = nx + (1 + n.toNatClampNeg) by omega, zws_app]
    refine va_P.app ?_ (fun q x hx => ?_)
    · rw [zws_congr (I' := I) (L' := L) (P' := P') (I := I) (L := L) (P := P) (fun b hb => zE_congr rfl rfl (hP1 b (by omega)))]
      exact hR.2.2.kept (fun q x hx => f3 x.1 ((hR.2.2 q x hx).lt))
    · have hq : q < 1 + n.toNatClampNeg := by
        have := (List.getElem?_eq_some_iff.mp hx).1
        simpa using this
      rw [List.getElem?_map, List.getElem?_range hq] at hx
      cases hx
      match q, hq with
      | 0, _ =>
        show va_at _ _ (G.1 + (nx + 0), zE G I L P' (nx + 0)) _
        rw [Nat.add_zero, zE_arr hs (by decide), ← hz1]
        show _ = some (arrV (G.2.2.1 104) n.toNatClampNeg (fun j => va_rf ((P' nx j).map (zad G))))
        rw [f2]
        refine congrArg some (arrV_cg (fun j hj => ?_))
        rw [if_pos hj, hP2 j hj]
        show Value.ref _ = Value.ref (zad G (nx + 1 + j))
        rw [zad_own (by omega), hz1]
        exact congrArg Value.ref (show G.1 + nx + 1 + j = G.1 + (nx + 1 + j) by simp only [Nat.add_assoc])
      | q + 1, hq =>
        have hq2 : q < n.toNatClampNeg := by omega
        show va_at _ _ (G.1 + (nx + (q + 1)), zE G I L P' (nx + (q + 1))) _
        rw [show nx + (q + 1) = nx + 1 + q by omega, zE_arr (hsi q hq2) (by decide), show G.1 + (nx + 1 + q) = H.size + 1 + q by omega]
        show _ = some (arrV (G.2.2.1 100) k.toNatClampNeg (fun j => .int (I (nx + 1 + q) j)))
        rw [f4 q hq2]
        refine congrArg some (arrV_cg (fun j hj => ?_))
        rw [(hF (nx + 1 + q) (by omega) j).1]
  have hk2 := kk G p l e s m args below meth c0 _ locs ls C hRn (zS_push hS (by rw [f1]; omega) f3) hl
  have hk2 : W p l e R s m args below meth c0 H2 locs (cs + 1 + n.toNatClampNeg) (sl + n.toNatClampNeg + n.toNatClampNeg * k.toNatClampNeg) _ (F0 m (pc + 4) ls (.ref (zad G nx) :: st.map (ztr G))) := hk2
  rw [show zad G nx = H.size by rw [zad_own (by omega), hz1]] at hk2
  exact hk2
end ZMU
/-- references as a list: the last put stands first -/
def pL (l : List ((Nat × Nat) × Nat)) : zP := fun a k => l.lookup (a, k)
def zrows (a n : Nat) : List ((Nat × Nat) × Nat) := (List.range n).map (fun j => ((a, j), a + 1 + j))
theorem lookup_app (k : Nat × Nat) : ∀ (l m : List ((Nat × Nat) × Nat)), (l ++ m).lookup k = (l.lookup k).or (m.lookup k)
  | [], m => by simp
  | (a, b) :: l, m => by
    rw [List.cons_append, List.lookup_cons, List.lookup_cons]
    cases k == a
    · exact lookup_app k l m
    · rfl
theorem lookup_none {a k : Nat} : ∀ (l : List ((Nat × Nat) × Nat)), (∀ q ∈ l, q.1.1 ≠ a) → l.lookup (a, k) = none
  | [], _ => rfl
  | ((c, j), b) :: l, h => by
    have h1 : c ≠ a := h ((c, j), b) List.mem_cons_self
    have h2 : ((a, k) == (c, j)) = false := by
      rw [beq_eq_false_iff_ne]
      intro e
      exact h1 (Prod.mk.inj e).1.symm
    rw [List.lookup_cons, h2]
    exact lookup_none l (fun q hq => h q (List.mem_cons_of_mem _ hq))
theorem zrows_at {a n j : Nat} (h : j < n) : (zrows a n).lookup (a, j) = some (a + 1 + j) := by
  unfold zrows
  induction n with
  | zero => omega
  | succ n ih =>
    rw [List.range_succ, List.map_append, lookup_app]
    by_cases hj : j < n
    · rw [ih hj]
      rfl
    · have : j = n := by omega
      subst this
      rw [show List.lookup (a, j) (List.map (fun j => ((a, j), a + 1 + j)) (List.range j)) = none from ?_]
      · simp [List.lookup]
      · rw [List.lookup_eq_none_iff]
        intro q hq
        obtain ⟨i, hi, rfl⟩ := List.mem_map.mp hq
        have := List.mem_range.mp hi
        simp only [beq_eq_false_iff_ne, ne_eq, Prod.mk.injEq, not_and, bne_iff_ne]
        intro _
        omega
theorem pL_ne {a b : Nat} {e l : List ((Nat × Nat) × Nat)} (h : ∀ q ∈ e, q.1.1 = a) (hb : b ≠ a) : pL (e ++ l) b = pL l b := by
  funext k
  show (e ++ l).lookup (b, k) = l.lookup (b, k)
  rw [lookup_app, lookup_none e (fun q hq => by rw [h q hq]; exact Ne.symm hb)]
  rfl
theorem zuP_pL (l : List ((Nat × Nat) × Nat)) (a k b : Nat) : zuP (pL l) a k (some b) = pL (((a, k), b) :: l) := by
  funext c j
  unfold zuP
  by_cases hc : c = a
  · subst hc
    rw [if_pos rfl]
    unfold va_up pL
    by_cases hj : j = k
    · subst hj
      simp [List.lookup]
    · rw [if_neg hj, List.lookup_cons]
      have : ((c, j) == (c, k)) = false := by
        rw [beq_eq_false_iff_ne]
        intro e
        exact hj (Prod.mk.inj e).2
      rw [this]
  · rw [if_neg hc]
    exact (congrFun (pL_ne (e := [((a, k), b)]) (l := l) (a := a) (b := c) (by simp) hc) j).symm
theorem zFz_ext {n m : Nat} {I : zI} {L : zL} {e l : List ((Nat × Nat) × Nat)} (h : zFz n I L (pL l)) (hm : n ≤ m) (he : e.all (fun q => decide (q.1.1 < m)) = true) : zFz m I L (pL (e ++ l)) := by
  intro b hb k
  obtain ⟨h1, h2, h3⟩ := h b (by omega) k
  refine ⟨h1, h2, ?_⟩
  show (e ++ l).lookup (b, k) = none
  rw [lookup_app, lookup_none e (fun q hq => ?_)]
  · exact h3
  · have := of_decide_eq_true (List.all_eq_true.mp he q hq)
    omega
theorem zFz_I {n a k : Nat} {v : Int32} {I : zI} {L : zL} {P : zP} (h : zFz n I L P) (ha : a < n) : zFz n (zuI I a k v) L P := fun b hb j => by
  rw [zuI_ne (by omega)]
  exact h b hb j
theorem zFz_put {n a k b : Nat} {I : zI} {L : zL} {l : List ((Nat × Nat) × Nat)} (h : zFz n I L (pL l)) (ha : a < n) : zFz n I L (pL (((a, k), b) :: l)) := zFz_ext (e := [((a, k), b)]) h (Nat.le_refl _) (by simpa using ha)
theorem zFz_rows {n N : Nat} {I : zI} {L : zL} {l : List ((Nat × Nat) × Nat)} (h : zFz n I L (pL l)) : zFz (n + 1 + N) I L (pL (zrows n N ++ l)) := zFz_ext h (by omega) (List.all_eq_true.mpr (fun q hq => by
  obtain ⟨j, -, rfl⟩ := List.mem_map.mp hq
  exact decide_eq_true (by show n < _; omega)))
section ZPL
variable {y : zY} {R : Room} {mc ms : Nat} {Q : zQt} {pc : Nat} {lv : zV} {st : List Value} {I : zI} {L : zL} {l : List ((Nat × Nat) × Nat)} {nx cs sl : Nat}
theorem z_putPl {a c k idx b : Nat} (h : decode y.2.1 pc = .ok (.putfield idx, 3)) (hF : zF y.1.cls idx c k) (ha : a < nx) (hs : (zsh a).1 = c) (hfin : (zTT c k).2.2.2 = false ∨ ((zTT c k).2.2.2 = true ∧ y.1.name = "<init>" ∧ (zTT c k).1 = y.1.cls)) (hv : ∀ G I L P a, zfv G I L P a k (zty c k) = zrf G (P a k)) (hn : ∀ q, narrow (zty c k) (.ref q) = .ref q) (hfit : ∀ q, fits (zty c k) (.ref q) = true)
    (kk : zW y R mc ms Q (pc + 3) lv st I L (pL (((a, k), b) :: l)) nx cs sl) : zW y R mc ms Q pc lv (.ref b :: .ref a :: st) I L (pL l) nx cs sl :=
  z_putP h hF ha hs hfin hv hn hfit (by rw [zuP_pL]; exact kk)
theorem z_aastorel {a n b j : Nat} {i : Int32} (h : decode y.2.1 pc = .ok (.aastore, 1)) (ha : a < nx) (hs : zsh a = (105, n)) (hi : vp_in i n) (hj : i.toNatClampNeg = j) (hb : b < nx) (hsb : (zsh b).1 = 5) (kk : zW y R mc ms Q (pc + 1) lv st I L (pL (((a, j), b) :: l)) nx cs sl) : zW y R mc ms Q pc lv (.ref b :: .int i :: .ref a :: st) I L (pL l) nx cs sl :=
  z_aastore h ha hs hi hb hsb (by rw [zuP_pL, hj]; exact kk)
/-- what stands there is put there -/
theorem z_putI0 {P : zP} {a c k idx : Nat} {v : Int32} (h : decode y.2.1 pc = .ok (.putfield idx, 3)) (hF : zF y.1.cls idx c k) (ha : a < nx) (hs : (zsh a).1 = c) (hfin : (zTT c k).2.2.2 = false ∨ ((zTT c k).2.2.2 = true ∧ y.1.name = "<init>" ∧ (zTT c k).1 = y.1.cls)) (hv : ∀ G I L P a, zfv G I L P a k (zty c k) = .int (I a k)) (hn : narrow (zty c k) (.int v) = .int v) (hfit : fits (zty c k) (.int v) = true) (he : I a k = v)
    (kk : zW y R mc ms Q (pc + 3) lv st I L P nx cs sl) : zW y R mc ms Q pc lv (.int v :: .ref a :: st) I L P nx cs sl :=
  z_putI h hF ha hs hfin hv hn hfit (by rw [zuI_id he]; exact kk)
theorem z_multiP {N M idx : Nat} {n k : Int32} (h : decode y.2.1 pc = .ok (.multianewarray idx 2, 4)) (hw : Cond.classLink y.1.cls idx ("[" ++ (FieldType.array .int).toString) ∈ zTb) (hwa : Cond.arrayClass .int ∈ zTb) (hnx : nx + N < 205) (hs : zsh nx = (104, N)) (hsi : ∀ j, j < N → zsh (nx + 1 + j) = (100, M)) (hn0 : ¬ n < 0) (hn : n.toNatClampNeg = N) (hk0 : ¬ k < 0) (hk : k.toNatClampNeg = M) (hN : N * 4 ≤ 536870912) (hM : M * 4 ≤ 536870912) (hF : zFz nx I L (pL l)) (hcs : cs + (1 + N) ≤ R.cells) (hsl : sl + (N + N * M) ≤ R.slots)
    (kk : zW y R mc ms Q (pc + 4) lv (.ref nx :: st) I L (pL (zrows nx N ++ l)) (nx + 1 + N) (cs + 1 + N) (sl + N + N * M)) : zW y R mc ms Q pc lv (.int k :: .int n :: st) I L (pL l) nx cs sl :=
  z_multi h hw hwa hnx hs hsi hn0 hn hk0 hk hN hM hF (fun b hb => pL_ne (a := nx) (fun q hq => by
    obtain ⟨j, -, rfl⟩ := List.mem_map.mp hq
    rfl) hb) (fun j hj => by
    show (zrows nx N ++ l).lookup (nx, j) = _
    rw [lookup_app, zrows_at hj]
    rfl) hcs hsl kk
end ZPL
