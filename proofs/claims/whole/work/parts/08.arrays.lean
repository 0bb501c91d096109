/-! ===== z, 4: arrays ===== -/
section ZA
variable {y : zY} {R : Room} {mc ms : Nat} {Q : zQt} {pc : Nat} {lv : zV} {st : List Value} {I : zI} {L : zL} {P : zP} {nx cs sl : Nat}
theorem zad_nx {G : zG} {H : Heap} {a : Nat} (hR : zRel G I L P nx H) (ha : a < nx) : zad G a = G.1 + a := zad_own (by have := hR.2.1; omega)
theorem z_iaload {a n : Nat} {i : Int32} (h : decode y.2.1 pc = .ok (.iaload, 1)) (ha : a < nx) (hs : zsh a = (100, n)) (hi : vp_in i n) (kk : zW y R mc ms Q (pc + 1) lv (.int (I a i.toNatClampNeg) :: st) I L P nx cs sl) : zW y R mc ms Q pc lv (.int i :: .ref a :: st) I L P nx cs sl := by
  intro G p l e s m args below meth c0 H locs ls C hR hS hl
  show W p l e R s m args below meth c0 H locs cs sl _ (F0 m pc ls (.int i :: .ref (zad G a) :: st.map (ztr G)))
  rw [zad_nx hR ha]
  exact va_iald C.1 C.2.1 C.2.2.2.2.2.2.2.2.1.1 hR.2.2 a 0 (f := I a) (by rw [zws_at ha, zE_arr hs (by decide)]; rfl) rfl hi h (kk G p l e s m args below meth c0 H locs ls C hR hS hl)
theorem z_baload {a n : Nat} {i : Int32} (h : decode y.2.1 pc = .ok (.baload, 1)) (ha : a < nx) (hs : zsh a = (102, n)) (hi : vp_in i n) (kk : zW y R mc ms Q (pc + 1) lv (.int (I a i.toNatClampNeg) :: st) I L P nx cs sl) : zW y R mc ms Q pc lv (.int i :: .ref a :: st) I L P nx cs sl := by
  intro G p l e s m args below meth c0 H locs ls C hR hS hl
  show W p l e R s m args below meth c0 H locs cs sl _ (F0 m pc ls (.int i :: .ref (zad G a) :: st.map (ztr G)))
  rw [zad_nx hR ha]
  exact va_bald C.1 C.2.1 C.2.2.2.2.2.2.2.2.1.1 hR.2.2 a 2 (f := I a) (by rw [zws_at ha, zE_arr hs (by decide)]; rfl) rfl hi h (kk G p l e s m args below meth c0 H locs ls C hR hS hl)
theorem z_zaload {a n : Nat} {i : Int32} (h : decode y.2.1 pc = .ok (.baload, 1)) (ha : a < nx) (hs : zsh a = (103, n)) (hi : vp_in i n) (kk : zW y R mc ms Q (pc + 1) lv (.int (I a i.toNatClampNeg) :: st) I L P nx cs sl) : zW y R mc ms Q pc lv (.int i :: .ref a :: st) I L P nx cs sl := by
  intro G p l e s m args below meth c0 H locs ls C hR hS hl
  show W p l e R s m args below meth c0 H locs cs sl _ (F0 m pc ls (.int i :: .ref (zad G a) :: st.map (ztr G)))
  rw [zad_nx hR ha]
  exact va_zald C.1 C.2.1 C.2.2.2.2.2.2.2.2.1.1 hR.2.2 a 3 (f := I a) (by rw [zws_at ha, zE_arr hs (by decide)]; rfl) rfl hi h (kk G p l e s m args below meth c0 H locs ls C hR hS hl)
theorem z_laload {a n : Nat} {i : Int32} (h : decode y.2.1 pc = .ok (.laload, 1)) (ha : a < nx) (hs : zsh a = (101, n)) (hi : vp_in i n) (kk : zW y R mc ms Q (pc + 1) lv (.long (L a i.toNatClampNeg) :: st) I L P nx cs sl) : zW y R mc ms Q pc lv (.int i :: .ref a :: st) I L P nx cs sl := by
  intro G p l e s m args below meth c0 H locs ls C hR hS hl
  show W p l e R s m args below meth c0 H locs cs sl _ (F0 m pc ls (.int i :: .ref (zad G a) :: st.map (ztr G)))
  rw [zad_nx hR ha]
  exact va_lald C.1 C.2.1 C.2.2.2.2.2.2.2.2.1.1 hR.2.2 a 1 (f := L a) (by rw [zws_at ha, zE_arr hs (by decide)]; rfl) rfl hi h (kk G p l e s m args below meth c0 H locs ls C hR hS hl)
/-- an array of references: 104 int[][], 105 Scene[] -/
theorem z_aaload {a k n b : Nat} {i : Int32} (h : decode y.2.1 pc = .ok (.aaload, 1)) (ha : a < nx) (hs : zsh a = (k, n)) (hk : k = 104 ∨ k = 105) (hi : vp_in i n) (hb : P a i.toNatClampNeg = some b) (kk : zW y R mc ms Q (pc + 1) lv (.ref b :: st) I L P nx cs sl) : zW y R mc ms Q pc lv (.int i :: .ref a :: st) I L P nx cs sl := by
  intro G p l e s m args below meth c0 H locs ls C hR hS hl
  show W p l e R s m args below meth c0 H locs cs sl _ (F0 m pc ls (.int i :: .ref (zad G a) :: st.map (ztr G)))
  rw [zad_nx hR ha]
  have hlt : i.toNatClampNeg < n := Nat.not_le.mp fun q => hi (Or.inr q)
  have hk2 := kk G p l e s m args below meth c0 H locs ls C hR hS hl
  have hK := C.2.2.2.2.2.2.2.2.1.1
  rcases hk with rfl | rfl
  · have hc : H[G.1 + a]? = some (vp_cell (G.2.2.1 104) (n, .inr (.inr (.inr (.inr (fun j => (P a j).map (zad G))))))) := by
      have := hR.2.2 a _ (zws_at ha)
      rw [zE_arr hs (by decide)] at this
      exact this
    refine W.aald (v := ztr G (.ref b)) (ty := .array .int) C.1 C.2.1 hc ((hK.2 4 (G.2.2.1 104, .array .int) rfl).1 n (fun j => va_rf ((P a j).map (zad G)))) rfl (fun q => by cases q) (by show ¬ (i < 0 ∨ (arrV _ _ _).slots.size ≤ _); rw [arrV_size]; exact hi) ?_ rfl rfl h hk2
    show (arrV _ _ _).slots[_]? = _
    rw [arrV_read _ _ hlt]
    show some (va_rf ((P a i.toNatClampNeg).map (zad G))) = _
    rw [hb]
    rfl
  · have hc : H[G.1 + a]? = some (vp_cell (G.2.2.1 105) (n, .inr (.inr (.inr (.inr (fun j => (P a j).map (zad G))))))) := by
      have := hR.2.2 a _ (zws_at ha)
      rw [zE_arr hs (by decide)] at this
      exact this
    refine W.aald (v := ztr G (.ref b)) (ty := .object "NinetyNights$Scene") C.1 C.2.1 hc ((hK.2 5 (G.2.2.1 105, .object "NinetyNights$Scene") rfl).1 n (fun j => va_rf ((P a j).map (zad G)))) rfl (fun q => by cases q) (by show ¬ (i < 0 ∨ (arrV _ _ _).slots.size ≤ _); rw [arrV_size]; exact hi) ?_ rfl rfl h hk2
    show (arrV _ _ _).slots[_]? = _
    rw [arrV_read _ _ hlt]
    show some (va_rf ((P a i.toNatClampNeg).map (zad G))) = _
    rw [hb]
    rfl
theorem zcellI {G : zG} {H : Heap} {a k n : Nat} (hR : zRel G I L P nx H) (ha : a < nx) (hs : zsh a = (k, n)) (h1 : 100 ≤ k) (h2 : k ≠ 101) (h3 : ¬ 104 ≤ k) : H[G.1 + a]? = some (vp_cell (G.2.2.1 k) (n, .inl (I a))) := by
  have := hR.2.2 a _ (zws_at ha)
  rw [zE_arr hs h1] at this
  unfold zar at this
  rw [if_neg h2, if_neg h3] at this
  exact this
theorem zstoreI {G : zG} {H H1 : Heap} {a k n j : Nat} {v : Int32} (hR : zRel G I L P nx H) (ha : a < nx) (hs : zsh a = (k, n)) (h1 : 100 ≤ k) (h2 : k ≠ 101) (h3 : ¬ 104 ≤ k) (e : H1[G.1 + a]? = some ((vp_cell (G.2.2.1 k) (n, .inl (I a))).setSlot j (.int v))) (z : H1.size = H.size) (oq : ∀ q, q ≠ G.1 + a → H1[q]? = H[q]?) : zRel G (zuI I a j v) L P nx H1 := by
  refine zRel_upd hR ha ?_ (fun b hb => zE_congr (zuI_ne hb) rfl rfl) z oq
  rw [zE_arr hs h1]
  unfold zar
  rw [if_neg h2, if_neg h3, zuI_at]
  show H1[G.1 + a]? = some (vp_cell _ _)
  rw [e]
  rw [vp_cell_i, vp_cell_i, arrV_store]
  congr 2
  funext q
  by_cases hq : q = j
  · subst hq
    simp [updV, upd]
  · simp [updV, upd, hq]
theorem z_iastore {a n : Nat} {i v : Int32} (h : decode y.2.1 pc = .ok (.iastore, 1)) (ha : a < nx) (hs : zsh a = (100, n)) (hi : vp_in i n) (kk : zW y R mc ms Q (pc + 1) lv st (zuI I a i.toNatClampNeg v) L P nx cs sl) : zW y R mc ms Q pc lv (.int v :: .int i :: .ref a :: st) I L P nx cs sl := by
  intro G p l e s m args below meth c0 H locs ls C hR hS hl
  show W p l e R s m args below meth c0 H locs cs sl _ (F0 m pc ls (.int v :: .int i :: .ref (zad G a) :: st.map (ztr G)))
  rw [zad_nx hR ha]
  have hK := C.2.2.2.2.2.2.2.2.1.1
  exact W.iast C.1 C.2.1 (zcellI hR ha hs (by decide) (by decide) (by decide)) ((hK.2 0 (G.2.2.1 100, .int) rfl).1 n (fun j => .int (I a j))) (fun q => by cases q) (by show ¬ (i < 0 ∨ (arrV _ _ _).slots.size ≤ _); rw [arrV_size]; exact hi) rfl rfl h
    (fun H1 e1 z oq => kk G p l e s m args below meth c0 H1 _ ls C (zstoreI hR ha hs (by decide) (by decide) (by decide) e1 z oq) (hS.put z oq zin_A) hl)
theorem z_bastore {a n : Nat} {i v w : Int32} (h : decode y.2.1 pc = .ok (.bastore, 1)) (ha : a < nx) (hs : zsh a = (102, n)) (hi : vp_in i n) (hw : narrow .byte (.int v) = .int w) (kk : zW y R mc ms Q (pc + 1) lv st (zuI I a i.toNatClampNeg w) L P nx cs sl) : zW y R mc ms Q pc lv (.int v :: .int i :: .ref a :: st) I L P nx cs sl := by
  intro G p l e s m args below meth c0 H locs ls C hR hS hl
  show W p l e R s m args below meth c0 H locs cs sl _ (F0 m pc ls (.int v :: .int i :: .ref (zad G a) :: st.map (ztr G)))
  rw [zad_nx hR ha]
  have hK := C.2.2.2.2.2.2.2.2.1.1
  exact W.bast C.1 C.2.1 (zcellI hR ha hs (by decide) (by decide) (by decide)) ((hK.2 2 (G.2.2.1 102, .byte) rfl).1 n (fun j => .int (I a j))) (fun q => by cases q) (by show ¬ (i < 0 ∨ (arrV _ _ _).slots.size ≤ _); rw [arrV_size]; exact hi) rfl rfl h
    (fun H1 e1 z oq => kk G p l e s m args below meth c0 H1 _ ls C (zstoreI hR ha hs (by decide) (by decide) (by decide) (by rw [← hw]; exact e1) z oq) (hS.put z oq zin_A) hl)
theorem z_zastore {a n : Nat} {i v w : Int32} (h : decode y.2.1 pc = .ok (.bastore, 1)) (ha : a < nx) (hs : zsh a = (103, n)) (hi : vp_in i n) (hw : narrow .boolean (.int v) = .int w) (kk : zW y R mc ms Q (pc + 1) lv st (zuI I a i.toNatClampNeg w) L P nx cs sl) : zW y R mc ms Q pc lv (.int v :: .int i :: .ref a :: st) I L P nx cs sl := by
  intro G p l e s m args below meth c0 H locs ls C hR hS hl
  show W p l e R s m args below meth c0 H locs cs sl _ (F0 m pc ls (.int v :: .int i :: .ref (zad G a) :: st.map (ztr G)))
  rw [zad_nx hR ha]
  have hK := C.2.2.2.2.2.2.2.2.1.1
  exact W.zast C.1 C.2.1 (zcellI hR ha hs (by decide) (by decide) (by decide)) ((hK.2 3 (G.2.2.1 103, .boolean) rfl).1 n (fun j => .int (I a j))) (fun q => by cases q) (by show ¬ (i < 0 ∨ (arrV _ _ _).slots.size ≤ _); rw [arrV_size]; exact hi) rfl rfl h
    (fun H1 e1 z oq => kk G p l e s m args below meth c0 H1 _ ls C (zstoreI hR ha hs (by decide) (by decide) (by decide) (by rw [← hw]; exact e1) z oq) (hS.put z oq zin_A) hl)
theorem z_lastore {a n : Nat} {i : Int32} {v : Int64} (h : decode y.2.1 pc = .ok (.lastore, 1)) (ha : a < nx) (hs : zsh a = (101, n)) (hi : vp_in i n) (kk : zW y R mc ms Q (pc + 1) lv st I (zuL L a i.toNatClampNeg v) P nx cs sl) : zW y R mc ms Q pc lv (.long v :: .int i :: .ref a :: st) I L P nx cs sl := by
  intro G p l e s m args below meth c0 H locs ls C hR hS hl
  show W p l e R s m args below meth c0 H locs cs sl _ (F0 m pc ls (.long v :: .int i :: .ref (zad G a) :: st.map (ztr G)))
  rw [zad_nx hR ha]
  have hK := C.2.2.2.2.2.2.2.2.1.1
  have hc : H[G.1 + a]? = some (vp_cell (G.2.2.1 101) (n, .inr (.inl (L a)))) := by
    have := hR.2.2 a _ (zws_at ha)
    rw [zE_arr hs (by decide)] at this
    exact this
  refine W.last C.1 C.2.1 hc ((hK.2 1 (G.2.2.1 101, .long) rfl).1 n (fun j => .long (L a j))) (fun q => by cases q) (by show ¬ (i < 0 ∨ (arrV _ _ _).slots.size ≤ _); rw [arrV_size]; exact hi) rfl rfl h
    (fun H1 e1 z oq => kk G p l e s m args below meth c0 H1 _ ls C (zRel_upd hR ha ?_ (fun b hb => zE_congr rfl (zuL_ne hb) rfl) z oq) (hS.put z oq zin_A) hl)
  rw [zE_arr hs (by decide)]
  show H1[G.1 + a]? = some (vp_cell _ (n, .inr (.inl (zuL L a i.toNatClampNeg v a))))
  rw [e1, zuL_at, vp_cell_l, vp_cell_l, arrV_store]
  congr 2
  funext q
  by_cases hq : q = i.toNatClampNeg
  · subst hq
    simp [updV, vp_updL]
  · simp [updV, vp_updL, hq]
theorem z_alenI {a k n : Nat} {v : Int32} (h : decode y.2.1 pc = .ok (.arraylength, 1)) (ha : a < nx) (hs : zsh a = (k, n)) (hk : k = 100 ∨ k = 101) (hv : Int32.ofNat n = v) (kk : zW y R mc ms Q (pc + 1) lv (.int v :: st) I L P nx cs sl) : zW y R mc ms Q pc lv (.ref a :: st) I L P nx cs sl := by
  intro G p l e s m args below meth c0 H locs ls C hR hS hl
  show W p l e R s m args below meth c0 H locs cs sl _ (F0 m pc ls (.ref (zad G a) :: st.map (ztr G)))
  rw [zad_nx hR ha]
  rcases hk with rfl | rfl
  · exact va_alen C.1 C.2.1 C.2.2.2.2.2.2.2.2.1.1 hR.2.2 a 0 (x := zar G I L P a 100 n) (ty := .int) (by rw [zws_at ha, zE_arr hs (by decide)]) rfl hv h (kk G p l e s m args below meth c0 H locs ls C hR hS hl)
  · exact va_alen C.1 C.2.1 C.2.2.2.2.2.2.2.2.1.1 hR.2.2 a 1 (x := zar G I L P a 101 n) (ty := .long) (by rw [zws_at ha, zE_arr hs (by decide)]) rfl hv h (kk G p l e s m args below meth c0 H locs ls C hR hS hl)
theorem z_copyI {a b na nb idx : Nat} {sp dp n : Int32} (h : decode y.2.1 pc = .ok (.invokestatic idx, 3)) (hw : Cond.methodLink y.1.cls idx arraycopyName ∈ zTb ∧ Cond.native arraycopyName ∈ zTb ∧ Cond.static arraycopyName ∈ zTb ∧ Cond.initialized "java/lang/System" ∈ zTb) (hnx : nx = 205) (ha : a < nx) (hb : b < nx) (hsa : zsh a = (100, na)) (hsb : zsh b = (100, nb)) (h1 : ¬ sp < 0) (h2 : ¬ dp < 0) (h3 : ¬ n < 0) (h4 : sp.toNatClampNeg + n.toNatClampNeg ≤ na) (h5 : dp.toNatClampNeg + n.toNatClampNeg ≤ nb)
    (hrm : (st.map fun v => v.category).sum ≤ 8) (hd : 1 ≤ R.frames ∧ 64 ≤ R.locals) (kk : zW y R mc ms Q (pc + 3) lv st (zaI I b (va_cpy (I a) (I b) sp.toNatClampNeg dp.toNatClampNeg n.toNatClampNeg)) L P nx cs sl) : zW y R mc ms Q pc lv (.int n :: .int dp :: .ref b :: .int sp :: .ref a :: st) I L P nx cs sl := by
  intro G p l e s m args below meth c0 H locs ls C hR hS hl
  show W p l e R s m args below meth c0 H locs cs sl _ (F0 m pc ls (.int n :: .int dp :: .ref (zad G b) :: .int sp :: .ref (zad G a) :: st.map (ztr G)))
  rw [zad_nx hR ha, zad_nx hR hb]
  have hts := C.2.2.2.2.2.1
  refine va_copyi C.1 C.2.1 (by rw [C.2.2.2.1, hl.1]) C.2.2.2.2.1 (hts _ hw.1) (hts _ hw.2.1) (hts _ hw.2.2.1) (hts _ hw.2.2.2) C.2.2.2.2.2.2.2.2.1.1 hR.2.2 (zws_D G I L P nx) hS a b 0 0 (f := I a) (g := I b) (ty := .int) (by rw [zws_at ha, zE_arr hsa (by decide)]; rfl) (by rw [zws_at hb, zE_arr hsb (by decide)]; rfl) rfl rfl rfl h1 h2 h3 h4 h5 (fun i _ => rfl) hd.1
    (by rw [zcat_sum]; have : nativeFrameWords "java/lang/System" "arraycopy" 5 + 11 ≤ 56 := by decide +kernel
        have := hd.2; omega) h (fun H1 locs1 hP1 hD1 hS1 => kk G p l e s m args below meth c0 H1 locs1 ls C ⟨fun q => absurd q (by omega), hR.2.1, ?_⟩ hS1 hl)
  rw [zws_set (I' := zaI I b (va_cpy (I a) (I b) sp.toNatClampNeg dp.toNatClampNeg n.toNatClampNeg)) (L' := L) (P' := P) ?_ (fun b2 hb2 => zE_congr (zaI_ne hb2) rfl rfl)] at hP1
  · exact hP1
  · rw [zE_arr hsb (by decide)]
    show _ = Sum.inl (_, (nb, Sum.inl (zaI I b _ b)))
    rw [zaI_at]
theorem z_mmax {idx : Nat} {a b : Int32} (h : decode y.2.1 pc = .ok (.invokestatic idx, 3)) (hw : Cond.methodLink y.1.cls idx Lib.Math.max.name ∈ zTb ∧ Cond.static Lib.Math.max.name ∈ zTb ∧ Cond.initialized "java/lang/Math" ∈ zTb ∧ Cond.code Lib.Math.max.name Lib.Math.max.code 2 (some .int) ∈ zTb) (hrm : (st.map fun v => v.category).sum ≤ 8) (hd : 1 ≤ R.frames ∧ 64 ≤ R.locals) (hc : cs ≤ R.cells) (hs : sl ≤ R.slots) (kk : zW y R mc ms Q (pc + 3) lv (.int (if a < b then b else a) :: st) I L P nx cs sl) : zW y R mc ms Q pc lv (.int b :: .int a :: st) I L P nx cs sl := by
  intro G p l e s m args below meth c0 H locs ls C hR hS hl
  have hts := C.2.2.2.2.2.1
  exact va_mmax C.1 C.2.1 (by rw [C.2.2.2.1, hl.1]) C.2.2.2.2.1 (hts _ hw.1) (hts _ hw.2.1) (hts _ hw.2.2.1) (hts _ hw.2.2.2) hd.1 (by rw [zcat_sum]; have := hd.2; omega) hc hs h (kk G p l e s m args below meth c0 H locs ls C hR hS hl)
theorem z_mmin {idx : Nat} {a b : Int32} (h : decode y.2.1 pc = .ok (.invokestatic idx, 3)) (hw : Cond.methodLink y.1.cls idx Lib.Math.min.name ∈ zTb ∧ Cond.static Lib.Math.min.name ∈ zTb ∧ Cond.initialized "java/lang/Math" ∈ zTb ∧ Cond.code Lib.Math.min.name Lib.Math.min.code 2 (some .int) ∈ zTb) (hrm : (st.map fun v => v.category).sum ≤ 8) (hd : 1 ≤ R.frames ∧ 64 ≤ R.locals) (hc : cs ≤ R.cells) (hs : sl ≤ R.slots) (kk : zW y R mc ms Q (pc + 3) lv (.int (if b < a then b else a) :: st) I L P nx cs sl) : zW y R mc ms Q pc lv (.int b :: .int a :: st) I L P nx cs sl := by
  intro G p l e s m args below meth c0 H locs ls C hR hS hl
  have hts := C.2.2.2.2.2.1
  exact va_mmin C.1 C.2.1 (by rw [C.2.2.2.1, hl.1]) C.2.2.2.2.1 (hts _ hw.1) (hts _ hw.2.1) (hts _ hw.2.2.1) (hts _ hw.2.2.2) hd.1 (by rw [zcat_sum]; have := hd.2; omega) hc hs h (kk G p l e s m args below meth c0 H locs ls C hR hS hl)
/-! fewer locals known; another answer's claim -/
def zle : zV → zV → Prop
  | [], _ => True
  | none :: t, u => zle t u.tail
  | some v :: t, u => u.head? = some (some v) ∧ zle t u.tail
theorem zle_at : ∀ (l u : zV) (k : Nat) (v : Value), zle l u → l[k]? = some (some v) → u[k]? = some (some v)
  | [], u, k, v, _, h => by simp at h
  | w :: t, u, k, v, hle, h => by
    match k, h with
    | 0, h =>
      simp at h
      subst h
      cases u with
      | nil => simp [zle] at hle
      | cons a b => simpa [zle] using hle.1
    | k + 1, h =>
      have h2 : zle t u.tail := by
        cases w with
        | none => exact hle
        | some w => exact hle.2
      have := zle_at t u.tail k v h2 (by simpa using h)
      cases u with
      | nil => simp at this
      | cons a b => simpa using this
theorem z_sub {lv2 : zV} (hle : zle lv2 lv) (k : zW y R mc ms Q pc lv2 st I L P nx cs sl) : zW y R mc ms Q pc lv st I L P nx cs sl :=
  fun G p l e s m args below meth c0 H locs ls C hR hS hl => k G p l e s m args below meth c0 H locs ls C hR hS ⟨hl.1, hl.2.1, fun k v hk => hl.2.2 k v (zle_at lv2 lv k v hle hk)⟩
theorem z_pc {pc2 : Nat} (e : pc2 = pc) (k : zW y R mc ms Q pc lv st I L P nx cs sl) : zW y R mc ms Q pc2 lv st I L P nx cs sl := e ▸ k
end ZA
