section ZR
variable {y : zY} {R : Room} {mc ms : Nat} {Q : zQt} {pc : Nat} {lv : zV} {st : List Value} {I : zI} {L : zL} {P : zP} {nx cs sl : Nat}
theorem z_iconst {n : Int} {v : Int32} (h : decode y.2.1 pc = .ok (.iconst n, 1)) (hv : Int32.ofInt n = v) (k : zW y R mc ms Q (pc + 1) lv (.int v :: st) I L P nx cs sl) : zW y R mc ms Q pc lv st I L P nx cs sl := fun G p l e s m args below meth c H locs ls C hR hS hl => lv_iconst C.1 C.2.1 h hv (k G p l e s m args below meth c H locs ls C hR hS hl)
theorem z_bipush {n : Int} {v : Int32} (h : decode y.2.1 pc = .ok (.bipush n, 2)) (hv : (Int8.ofInt n).toInt32 = v) (k : zW y R mc ms Q (pc + 2) lv (.int v :: st) I L P nx cs sl) : zW y R mc ms Q pc lv st I L P nx cs sl := fun G p l e s m args below meth c H locs ls C hR hS hl => lv_bipush C.1 C.2.1 h hv (k G p l e s m args below meth c H locs ls C hR hS hl)
theorem z_sipush {n : Int} {v : Int32} (h : decode y.2.1 pc = .ok (.sipush n, 3)) (hv : (Int16.ofInt n).toInt32 = v) (k : zW y R mc ms Q (pc + 3) lv (.int v :: st) I L P nx cs sl) : zW y R mc ms Q pc lv st I L P nx cs sl := fun G p l e s m args below meth c H locs ls C hR hS hl => lv_sipush C.1 C.2.1 h hv (k G p l e s m args below meth c H locs ls C hR hS hl)
theorem z_lconst {n : Fin 2} {v : Int64} (h : decode y.2.1 pc = .ok (.lconst n, 1)) (hv : Int64.ofNat (n : Nat) = v) (k : zW y R mc ms Q (pc + 1) lv (.long v :: st) I L P nx cs sl) : zW y R mc ms Q pc lv st I L P nx cs sl := fun G p l e s m args below meth c H locs ls C hR hS hl => lv_lconst C.1 C.2.1 h hv (k G p l e s m args below meth c H locs ls C hR hS hl)
theorem z_ldc {i : Nat} {v : Int32} (h : decode y.2.1 pc = .ok (.ldc i, 2)) (hw : Cond.constant y.1.cls i v ∈ zTb) (k : zW y R mc ms Q (pc + 2) lv (.int v :: st) I L P nx cs sl) : zW y R mc ms Q pc lv st I L P nx cs sl := fun G p l e s m args below meth c H locs ls C hR hS hl => lv_ldc C.1 C.2.1 C.2.2.2.2.1 (C.2.2.2.2.2.1 _ hw) h (k G p l e s m args below meth c H locs ls C hR hS hl)
theorem z_ldc_w {i : Nat} {v : Int32} (h : decode y.2.1 pc = .ok (.ldc_w i, 3)) (hw : Cond.constant y.1.cls i v ∈ zTb) (k : zW y R mc ms Q (pc + 3) lv (.int v :: st) I L P nx cs sl) : zW y R mc ms Q pc lv st I L P nx cs sl := fun G p l e s m args below meth c H locs ls C hR hS hl => lv_ldcw C.1 C.2.1 C.2.2.2.2.1 (C.2.2.2.2.2.1 _ hw) h (k G p l e s m args below meth c H locs ls C hR hS hl)
theorem z_ldc2 {i : Nat} {v : Int64} (h : decode y.2.1 pc = .ok (.ldc2_w i, 3)) (hw : Cond.constantLong y.1.cls i v ∈ zTb) (k : zW y R mc ms Q (pc + 3) lv (.long v :: st) I L P nx cs sl) : zW y R mc ms Q pc lv st I L P nx cs sl := fun G p l e s m args below meth c H locs ls C hR hS hl => lv_ldc2 C.1 C.2.1 C.2.2.2.2.1 (C.2.2.2.2.2.1 _ hw) h (k G p l e s m args below meth c H locs ls C hR hS hl)
theorem z_iload_n {k : Fin 4} {v : Int32} (h : decode y.2.1 pc = .ok (.iload_n k, 1)) (hv : lv[(k : Nat)]? = some (some (.int v))) (k : zW y R mc ms Q (pc + 1) lv (.int v :: st) I L P nx cs sl) : zW y R mc ms Q pc lv st I L P nx cs sl := fun G p l e s m args below meth c H locs ls C hR hS hl => lv_iload_n C.1 C.2.1 h rfl (hl.2.2 _ _ hv) (k G p l e s m args below meth c H locs ls C hR hS hl)
theorem z_iload {i : Nat} {v : Int32} (h : decode y.2.1 pc = .ok (.iload i, 2)) (hv : lv[i]? = some (some (.int v))) (k : zW y R mc ms Q (pc + 2) lv (.int v :: st) I L P nx cs sl) : zW y R mc ms Q pc lv st I L P nx cs sl := fun G p l e s m args below meth c H locs ls C hR hS hl => lv_iload C.1 C.2.1 h (hl.2.2 _ _ hv) (k G p l e s m args below meth c H locs ls C hR hS hl)
theorem z_lload_n {k : Fin 4} {v : Int64} (h : decode y.2.1 pc = .ok (.lload_n k, 1)) (hv : lv[(k : Nat)]? = some (some (.long v))) (k : zW y R mc ms Q (pc + 1) lv (.long v :: st) I L P nx cs sl) : zW y R mc ms Q pc lv st I L P nx cs sl := fun G p l e s m args below meth c H locs ls C hR hS hl => lv_lload_n C.1 C.2.1 h rfl (hl.2.2 _ _ hv) (k G p l e s m args below meth c H locs ls C hR hS hl)
theorem z_lload {i : Nat} {v : Int64} (h : decode y.2.1 pc = .ok (.lload i, 2)) (hv : lv[i]? = some (some (.long v))) (k : zW y R mc ms Q (pc + 2) lv (.long v :: st) I L P nx cs sl) : zW y R mc ms Q pc lv st I L P nx cs sl := fun G p l e s m args below meth c H locs ls C hR hS hl => lv_lload C.1 C.2.1 h (hl.2.2 _ _ hv) (k G p l e s m args below meth c H locs ls C hR hS hl)
theorem z_aload_n {k : Fin 4} {v : Nat} (h : decode y.2.1 pc = .ok (.aload_n k, 1)) (hv : lv[(k : Nat)]? = some (some (.ref v))) (k : zW y R mc ms Q (pc + 1) lv (.ref v :: st) I L P nx cs sl) : zW y R mc ms Q pc lv st I L P nx cs sl := fun G p l e s m args below meth c H locs ls C hR hS hl => lv_aload_n C.1 C.2.1 h rfl (hl.2.2 _ _ hv) (k G p l e s m args below meth c H locs ls C hR hS hl)
theorem z_aload {i : Nat} {v : Nat} (h : decode y.2.1 pc = .ok (.aload i, 2)) (hv : lv[i]? = some (some (.ref v))) (k : zW y R mc ms Q (pc + 2) lv (.ref v :: st) I L P nx cs sl) : zW y R mc ms Q pc lv st I L P nx cs sl := fun G p l e s m args below meth c H locs ls C hR hS hl => lv_aload C.1 C.2.1 h (hl.2.2 _ _ hv) (k G p l e s m args below meth c H locs ls C hR hS hl)
/-- the list of pairs that the kit wants -/
def zprs (G : zG) : Nat → zV → List (Nat × Value)
  | _, [] => []
  | i, none :: t => zprs G (i + 1) t
  | i, some v :: t => (i, ztr G v) :: zprs G (i + 1) t
theorem zprs_in (G : zG) : ∀ (lv : zV) (i : Nat) (q : Nat × Value), q ∈ zprs G i lv → ∃ k v, q = (i + k, ztr G v) ∧ lv[k]? = some (some v)
  | [], i, q, h => by simp [zprs] at h
  | none :: t, i, q, h => by
    obtain ⟨k, v, h1, h2⟩ := zprs_in G t (i + 1) q (by simpa [zprs] using h)
    exact ⟨k + 1, v, by rw [h1]; congr 1; omega, by simpa using h2⟩
  | some v :: t, i, q, h => by
    rcases List.mem_cons.mp (show q ∈ (i, ztr G v) :: zprs G (i + 1) t from h) with h | h
    · exact ⟨0, v, by rw [h]; rfl, rfl⟩
    · obtain ⟨k, v', h1, h2⟩ := zprs_in G t (i + 1) q h
      exact ⟨k + 1, v', by rw [h1]; congr 1; omega, by simpa using h2⟩
theorem zprs_of (G : zG) : ∀ (lv : zV) (i k : Nat) (v : Value), lv[k]? = some (some v) → (i + k, ztr G v) ∈ zprs G i lv
  | [], i, k, v, h => by simp at h
  | none :: t, i, k, v, h => by
    match k, h with
    | 0, h => simp at h
    | k + 1, h =>
      have := zprs_of G t (i + 1) k v (by simpa using h)
      rw [show i + (k + 1) = i + 1 + k by omega]
      exact this
  | some w :: t, i, k, v, h => by
    match k, h with
    | 0, h =>
      simp at h
      subst h
      exact List.mem_cons_self
    | k + 1, h =>
      have := zprs_of G t (i + 1) k v (by simpa using h)
      rw [show i + (k + 1) = i + 1 + k by omega]
      exact List.mem_cons_of_mem _ this
theorem zlv_has {G : zG} {ls : Array Slot} {n : Nat} {lv : zV} (h : zlv G ls n lv) : lv_has ls n (zprs G 0 lv) := by
  refine ⟨h.1, h.2.1, fun q hq => ?_⟩
  obtain ⟨k, v, rfl, hk⟩ := zprs_in G lv 0 q hq
  simp only [Nat.zero_add]
  exact h.2.2 k v hk
/-- the place before i holds no long -/
def zok (lv : zV) (i : Nat) : Bool := match i with
  | 0 => true
  | i + 1 => match lv[i]? with
    | some (some v) => !(v.category == 2)
    | _ => true
theorem zlv_st1 {G : zG} {ls' : Array Slot} {n i : Nat} {lv : zV} {v : Value} (hk : zok lv i = true) (h : lv_has ls' n ((i, ztr G v) :: (zprs G 0 lv).filter (fun q => !(q.1 == i) && !(q.1 + 1 == i && q.2.category == 2)))) : zlv G ls' n (lv.set i (some v)) := by
  refine ⟨h.1, h.2.1, fun k u hu => ?_⟩
  by_cases hki : k = i
  · subst hki
    have hl : k < lv.length := by have := (List.getElem?_eq_some_iff.mp hu).1; simpa using this
    rw [List.getElem?_set_self hl] at hu
    cases hu
    exact h.2.2 _ List.mem_cons_self
  · rw [List.getElem?_set_ne (Ne.symm hki)] at hu
    refine h.2.2 (k, ztr G u) (List.mem_cons_of_mem _ (List.mem_filter.mpr ⟨by have := zprs_of G lv 0 k u hu; simpa using this, ?_⟩))
    have h2 : ¬ (k + 1 = i ∧ u.category = 2) := by
      rintro ⟨rfl, hc⟩
      simp [zok, hu, hc] at hk
    simp only [ztr_cat, Bool.and_eq_true, Bool.not_eq_true', beq_eq_false_iff_ne, ne_eq, hki, not_false_eq_true, true_and, Bool.and_eq_false_iff, beq_eq_false_iff_ne]
    by_cases h3 : k + 1 = i
    · exact Or.inr (fun h4 => h2 ⟨h3, h4⟩)
    · exact Or.inl h3
theorem zlv_st2 {G : zG} {ls' : Array Slot} {n i : Nat} {lv : zV} {v : Value} (hk : zok lv i = true) (h : lv_has ls' n ((i, ztr G v) :: (zprs G 0 lv).filter (fun q => !(q.1 == i) && (!(q.1 == i + 1) && !(q.1 + 1 == i && q.2.category == 2))))) : zlv G ls' n ((lv.set i (some v)).set (i + 1) none) := by
  refine ⟨h.1, h.2.1, fun k u hu => ?_⟩
  by_cases hk1 : k = i + 1
  · subst hk1
    simp [List.getElem?_set] at hu
  rw [List.getElem?_set_ne (Ne.symm hk1)] at hu
  by_cases hki : k = i
  · subst hki
    have hl : k < lv.length := by have := (List.getElem?_eq_some_iff.mp hu).1; simpa using this
    rw [List.getElem?_set_self hl] at hu
    cases hu
    exact h.2.2 _ List.mem_cons_self
  · rw [List.getElem?_set_ne (Ne.symm hki)] at hu
    refine h.2.2 (k, ztr G u) (List.mem_cons_of_mem _ (List.mem_filter.mpr ⟨by have := zprs_of G lv 0 k u hu; simpa using this, ?_⟩))
    have h2 : ¬ (k + 1 = i ∧ u.category = 2) := by
      rintro ⟨rfl, hc⟩
      simp [zok, hu, hc] at hk
    simp only [ztr_cat, Bool.and_eq_true, Bool.not_eq_true', beq_eq_false_iff_ne, ne_eq, hki, hk1, not_false_eq_true, true_and, Bool.and_eq_false_iff, beq_eq_false_iff_ne]
    by_cases h3 : k + 1 = i
    · exact Or.inr (fun h4 => h2 ⟨h3, h4⟩)
    · exact Or.inl h3
theorem z_istore_n {k : Fin 4} {v : Int32} {lv2 : zV} (h : decode y.2.1 pc = .ok (.istore_n k, 1)) (hn : (k : Nat) < y.2.2.1) (hz : zok lv k = true) (he : lv.set k (some (.int v)) = lv2) (kk : zW y R mc ms Q (pc + 1) lv2 st I L P nx cs sl) : zW y R mc ms Q pc lv (.int v :: st) I L P nx cs sl := fun G p l e s m args below meth c H locs ls C hR hS hl => lv_istore_n C.1 C.2.1 h rfl (zlv_has hl) hn rfl (fun ls2 hl2 => kk G p l e s m args below meth c H locs ls2 C hR hS (he ▸ zlv_st1 (v := .int v) hz hl2))
theorem z_istore {k : Nat} {v : Int32} {lv2 : zV} (h : decode y.2.1 pc = .ok (.istore k, 2)) (hn : k < y.2.2.1) (hz : zok lv k = true) (he : lv.set k (some (.int v)) = lv2) (kk : zW y R mc ms Q (pc + 2) lv2 st I L P nx cs sl) : zW y R mc ms Q pc lv (.int v :: st) I L P nx cs sl := fun G p l e s m args below meth c H locs ls C hR hS hl => lv_istore C.1 C.2.1 h (zlv_has hl) hn rfl (fun ls2 hl2 => kk G p l e s m args below meth c H locs ls2 C hR hS (he ▸ zlv_st1 (v := .int v) hz hl2))
theorem z_astore_n {k : Fin 4} {v : Nat} {lv2 : zV} (h : decode y.2.1 pc = .ok (.astore_n k, 1)) (hn : (k : Nat) < y.2.2.1) (hz : zok lv k = true) (he : lv.set k (some (.ref v)) = lv2) (kk : zW y R mc ms Q (pc + 1) lv2 st I L P nx cs sl) : zW y R mc ms Q pc lv (.ref v :: st) I L P nx cs sl := fun G p l e s m args below meth c H locs ls C hR hS hl => lv_astore_n C.1 C.2.1 h rfl (zlv_has hl) hn rfl (fun ls2 hl2 => kk G p l e s m args below meth c H locs ls2 C hR hS (he ▸ zlv_st1 (v := .ref v) hz hl2))
theorem z_astore {k : Nat} {v : Nat} {lv2 : zV} (h : decode y.2.1 pc = .ok (.astore k, 2)) (hn : k < y.2.2.1) (hz : zok lv k = true) (he : lv.set k (some (.ref v)) = lv2) (kk : zW y R mc ms Q (pc + 2) lv2 st I L P nx cs sl) : zW y R mc ms Q pc lv (.ref v :: st) I L P nx cs sl := fun G p l e s m args below meth c H locs ls C hR hS hl => lv_astore C.1 C.2.1 h (zlv_has hl) hn rfl (fun ls2 hl2 => kk G p l e s m args below meth c H locs ls2 C hR hS (he ▸ zlv_st1 (v := .ref v) hz hl2))
theorem z_lstore_n {k : Fin 4} {v : Int64} {lv2 : zV} (h : decode y.2.1 pc = .ok (.lstore_n k, 1)) (hn : (k : Nat) + 1 < y.2.2.1) (hz : zok lv k = true) (he : (lv.set k (some (.long v))).set ((k : Nat) + 1) none = lv2) (kk : zW y R mc ms Q (pc + 1) lv2 st I L P nx cs sl) : zW y R mc ms Q pc lv (.long v :: st) I L P nx cs sl := fun G p l e s m args below meth c H locs ls C hR hS hl => lv_lstore_n C.1 C.2.1 h rfl (zlv_has hl) hn rfl (fun ls2 hl2 => kk G p l e s m args below meth c H locs ls2 C hR hS (he ▸ zlv_st2 (v := .long v) hz hl2))
theorem z_iinc {k : Nat} {n : Int} {v v2 : Int32} {lv2 : zV} (h : decode y.2.1 pc = .ok (.iinc k n, 3)) (hg : lv[k]? = some (some (.int v))) (hv : v + Int32.ofInt n = v2) (hn : k < y.2.2.1) (hz : zok lv k = true) (he : lv.set k (some (.int v2)) = lv2) (kk : zW y R mc ms Q (pc + 3) lv2 st I L P nx cs sl) : zW y R mc ms Q pc lv st I L P nx cs sl := by
  intro G p l e s m args below meth c H locs ls C hR hS hl
  obtain ⟨j, hj⟩ := List.getElem?_of_mem (zprs_of G lv 0 k _ hg)
  rw [Nat.zero_add] at hj
  exact lv_iinc C.1 C.2.1 h (zlv_has hl) hj hv hn rfl (fun ls2 hl2 => kk G p l e s m args below meth c H locs ls2 C hR hS (he ▸ zlv_st1 (v := .int v2) hz hl2))
theorem z_iincW {k : Nat} {n : Int} {v v2 : Int32} {lv2 : zV} (h : decode y.2.1 pc = .ok (.iinc k n, 6)) (hg : lv[k]? = some (some (.int v))) (hv : v + Int32.ofInt n = v2) (hn : k < y.2.2.1) (hz : zok lv k = true) (he : lv.set k (some (.int v2)) = lv2) (kk : zW y R mc ms Q (pc + 6) lv2 st I L P nx cs sl) : zW y R mc ms Q pc lv st I L P nx cs sl := by
  intro G p l e s m args below meth c H locs ls C hR hS hl
  obtain ⟨j, hj⟩ := List.getElem?_of_mem (zprs_of G lv 0 k _ hg)
  rw [Nat.zero_add] at hj
  exact lv_iincW C.1 C.2.1 h (zlv_has hl) hj hv hn rfl (fun ls2 hl2 => kk G p l e s m args below meth c H locs ls2 C hR hS (he ▸ zlv_st1 (v := .int v2) hz hl2))
theorem z_iadd {a b : Int32} (h : decode y.2.1 pc = .ok (.iadd, 1))  (k : zW y R mc ms Q (pc + 1) lv (.int (a + b) :: st) I L P nx cs sl) : zW y R mc ms Q pc lv (.int b :: .int a :: st) I L P nx cs sl := fun G p l e s m args below meth c H locs ls C hR hS hl => lv_iadd C.1 C.2.1 h (k G p l e s m args below meth c H locs ls C hR hS hl)
theorem z_isub {a b : Int32} (h : decode y.2.1 pc = .ok (.isub, 1))  (k : zW y R mc ms Q (pc + 1) lv (.int (a - b) :: st) I L P nx cs sl) : zW y R mc ms Q pc lv (.int b :: .int a :: st) I L P nx cs sl := fun G p l e s m args below meth c H locs ls C hR hS hl => lv_isub C.1 C.2.1 h (k G p l e s m args below meth c H locs ls C hR hS hl)
theorem z_imul {a b : Int32} (h : decode y.2.1 pc = .ok (.imul, 1))  (k : zW y R mc ms Q (pc + 1) lv (.int (a * b) :: st) I L P nx cs sl) : zW y R mc ms Q pc lv (.int b :: .int a :: st) I L P nx cs sl := fun G p l e s m args below meth c H locs ls C hR hS hl => lv_imul C.1 C.2.1 h (k G p l e s m args below meth c H locs ls C hR hS hl)
theorem z_iand {a b : Int32} (h : decode y.2.1 pc = .ok (.iand, 1))  (k : zW y R mc ms Q (pc + 1) lv (.int (a &&& b) :: st) I L P nx cs sl) : zW y R mc ms Q pc lv (.int b :: .int a :: st) I L P nx cs sl := fun G p l e s m args below meth c H locs ls C hR hS hl => lv_iand C.1 C.2.1 h (k G p l e s m args below meth c H locs ls C hR hS hl)
theorem z_ior {a b : Int32} (h : decode y.2.1 pc = .ok (.ior, 1))  (k : zW y R mc ms Q (pc + 1) lv (.int (a ||| b) :: st) I L P nx cs sl) : zW y R mc ms Q pc lv (.int b :: .int a :: st) I L P nx cs sl := fun G p l e s m args below meth c H locs ls C hR hS hl => lv_ior C.1 C.2.1 h (k G p l e s m args below meth c H locs ls C hR hS hl)
theorem z_ixor {a b : Int32} (h : decode y.2.1 pc = .ok (.ixor, 1))  (k : zW y R mc ms Q (pc + 1) lv (.int (a ^^^ b) :: st) I L P nx cs sl) : zW y R mc ms Q pc lv (.int b :: .int a :: st) I L P nx cs sl := fun G p l e s m args below meth c H locs ls C hR hS hl => lv_ixor C.1 C.2.1 h (k G p l e s m args below meth c H locs ls C hR hS hl)
theorem z_ishl {a b : Int32} (h : decode y.2.1 pc = .ok (.ishl, 1))  (k : zW y R mc ms Q (pc + 1) lv (.int (a <<< (b &&& 31)) :: st) I L P nx cs sl) : zW y R mc ms Q pc lv (.int b :: .int a :: st) I L P nx cs sl := fun G p l e s m args below meth c H locs ls C hR hS hl => lv_ishl C.1 C.2.1 h (k G p l e s m args below meth c H locs ls C hR hS hl)
theorem z_ishr {a b : Int32} (h : decode y.2.1 pc = .ok (.ishr, 1))  (k : zW y R mc ms Q (pc + 1) lv (.int (a >>> (b &&& 31)) :: st) I L P nx cs sl) : zW y R mc ms Q pc lv (.int b :: .int a :: st) I L P nx cs sl := fun G p l e s m args below meth c H locs ls C hR hS hl => lv_ishr C.1 C.2.1 h (k G p l e s m args below meth c H locs ls C hR hS hl)
theorem z_idiv {a b : Int32} (h : decode y.2.1 pc = .ok (.idiv, 1)) (hne : ¬ b = 0) (k : zW y R mc ms Q (pc + 1) lv (.int (a / b) :: st) I L P nx cs sl) : zW y R mc ms Q pc lv (.int b :: .int a :: st) I L P nx cs sl := fun G p l e s m args below meth c H locs ls C hR hS hl => lv_idiv C.1 C.2.1 h hne (k G p l e s m args below meth c H locs ls C hR hS hl)
theorem z_iushr {a b : Int32} (h : decode y.2.1 pc = .ok (.iushr, 1))  (k : zW y R mc ms Q (pc + 1) lv (.int ((a.toUInt32 >>> (b.toUInt32 &&& Int32.toUInt32 31)).toInt32) :: st) I L P nx cs sl) : zW y R mc ms Q pc lv (.int b :: .int a :: st) I L P nx cs sl := fun G p l e s m args below meth c H locs ls C hR hS hl => lv_iushr C.1 C.2.1 h rfl (k G p l e s m args below meth c H locs ls C hR hS hl)
theorem z_land {a b : Int64} (h : decode y.2.1 pc = .ok (.land, 1))  (k : zW y R mc ms Q (pc + 1) lv (.long (a &&& b) :: st) I L P nx cs sl) : zW y R mc ms Q pc lv (.long b :: .long a :: st) I L P nx cs sl := fun G p l e s m args below meth c H locs ls C hR hS hl => lv_land C.1 C.2.1 h (k G p l e s m args below meth c H locs ls C hR hS hl)
theorem z_lor {a b : Int64} (h : decode y.2.1 pc = .ok (.lor, 1))  (k : zW y R mc ms Q (pc + 1) lv (.long (a ||| b) :: st) I L P nx cs sl) : zW y R mc ms Q pc lv (.long b :: .long a :: st) I L P nx cs sl := fun G p l e s m args below meth c H locs ls C hR hS hl => lv_lor C.1 C.2.1 h (k G p l e s m args below meth c H locs ls C hR hS hl)
theorem z_lshl {a : Int64} {b : Int32} (h : decode y.2.1 pc = .ok (.lshl, 1))  (k : zW y R mc ms Q (pc + 1) lv (.long (a <<< (b.toInt64 &&& 63)) :: st) I L P nx cs sl) : zW y R mc ms Q pc lv (.int b :: .long a :: st) I L P nx cs sl := fun G p l e s m args below meth c H locs ls C hR hS hl => lv_lshl C.1 C.2.1 h rfl (k G p l e s m args below meth c H locs ls C hR hS hl)
theorem z_lshr {a : Int64} {b : Int32} (h : decode y.2.1 pc = .ok (.lshr, 1))  (k : zW y R mc ms Q (pc + 1) lv (.long (a >>> (b.toInt64 &&& 63)) :: st) I L P nx cs sl) : zW y R mc ms Q pc lv (.int b :: .long a :: st) I L P nx cs sl := fun G p l e s m args below meth c H locs ls C hR hS hl => lv_lshr C.1 C.2.1 h rfl (k G p l e s m args below meth c H locs ls C hR hS hl)
theorem z_i2l {a : Int32} (h : decode y.2.1 pc = .ok (.i2l, 1))  (k : zW y R mc ms Q (pc + 1) lv (.long a.toInt64 :: st) I L P nx cs sl) : zW y R mc ms Q pc lv (.int a :: st) I L P nx cs sl := fun G p l e s m args below meth c H locs ls C hR hS hl => lv_i2l C.1 C.2.1 h rfl (k G p l e s m args below meth c H locs ls C hR hS hl)
theorem z_l2i {a : Int64} (h : decode y.2.1 pc = .ok (.l2i, 1))  (k : zW y R mc ms Q (pc + 1) lv (.int a.toInt32 :: st) I L P nx cs sl) : zW y R mc ms Q pc lv (.long a :: st) I L P nx cs sl := fun G p l e s m args below meth c H locs ls C hR hS hl => lv_l2i C.1 C.2.1 h rfl (k G p l e s m args below meth c H locs ls C hR hS hl)
theorem z_i2b {a : Int32} (h : decode y.2.1 pc = .ok (.i2b, 1))  (k : zW y R mc ms Q (pc + 1) lv (.int a.toInt8.toInt32 :: st) I L P nx cs sl) : zW y R mc ms Q pc lv (.int a :: st) I L P nx cs sl := fun G p l e s m args below meth c H locs ls C hR hS hl => lv_i2b C.1 C.2.1 h rfl (k G p l e s m args below meth c H locs ls C hR hS hl)
theorem z_i2c {a : Int32} (h : decode y.2.1 pc = .ok (.i2c, 1))  (k : zW y R mc ms Q (pc + 1) lv (.int (a.toUInt32 % 65536).toInt32 :: st) I L P nx cs sl) : zW y R mc ms Q pc lv (.int a :: st) I L P nx cs sl := fun G p l e s m args below meth c H locs ls C hR hS hl => lv_i2c C.1 C.2.1 h rfl (k G p l e s m args below meth c H locs ls C hR hS hl)
theorem z_lcmp {a b : Int64} (h : decode y.2.1 pc = .ok (.lcmp, 1))  (k : zW y R mc ms Q (pc + 1) lv (.int (lg_cmp a b) :: st) I L P nx cs sl) : zW y R mc ms Q pc lv (.long b :: .long a :: st) I L P nx cs sl := fun G p l e s m args below meth c H locs ls C hR hS hl => W.lcmp C.1 C.2.1 h (k G p l e s m args below meth c H locs ls C hR hS hl)
theorem z_dup {v : Value} (h : decode y.2.1 pc = .ok (.dup, 1)) (hv : v.category = 1) (k : zW y R mc ms Q (pc + 1) lv (v :: v :: st) I L P nx cs sl) : zW y R mc ms Q pc lv (v :: st) I L P nx cs sl := fun G p l e s m args below meth c H locs ls C hR hS hl => lv_dup C.1 C.2.1 h ((ztr_cat _ _).trans hv) (k G p l e s m args below meth c H locs ls C hR hS hl)
theorem z_pop {v : Value} (h : decode y.2.1 pc = .ok (.pop, 1)) (hv : v.category = 1) (k : zW y R mc ms Q (pc + 1) lv st I L P nx cs sl) : zW y R mc ms Q pc lv (v :: st) I L P nx cs sl := fun G p l e s m args below meth c H locs ls C hR hS hl => lv_pop C.1 C.2.1 h ((ztr_cat _ _).trans hv) (k G p l e s m args below meth c H locs ls C hR hS hl)
theorem z_dup2 {v u : Value} (h : decode y.2.1 pc = .ok (.dup2, 1)) (hv : v.category = 1) (hu : u.category = 1) (k : zW y R mc ms Q (pc + 1) lv (v :: u :: v :: u :: st) I L P nx cs sl) : zW y R mc ms Q pc lv (v :: u :: st) I L P nx cs sl := fun G p l e s m args below meth c H locs ls C hR hS hl => lv_dup2_11 C.1 C.2.1 h ((ztr_cat _ _).trans hv) ((ztr_cat _ _).trans hu) (k G p l e s m args below meth c H locs ls C hR hS hl)
theorem z_if_eq {a : Int32} {off : Int} {tgt : Nat} (h : decode y.2.1 pc = .ok (.ifCond .eq off, 3)) (ht : (pc : Int) + off = (tgt : Int)) (kt : a = 0 → zW y R mc ms Q tgt lv st I L P nx cs sl) (kf : ¬ a = 0 → zW y R mc ms Q (pc + 3) lv st I L P nx cs sl) : zW y R mc ms Q pc lv (.int a :: st) I L P nx cs sl := fun G p l e s m args below meth c H locs ls C hR hS hl => lv_if_eq C.1 C.2.1 h ht (fun q => kt q G p l e s m args below meth c H locs ls C hR hS hl) (fun q => kf q G p l e s m args below meth c H locs ls C hR hS hl)
theorem z_icmp_eq {a b : Int32} {off : Int} {tgt : Nat} (h : decode y.2.1 pc = .ok (.if_icmp .eq off, 3)) (ht : (pc : Int) + off = (tgt : Int)) (kt : a = b → zW y R mc ms Q tgt lv st I L P nx cs sl) (kf : ¬ a = b → zW y R mc ms Q (pc + 3) lv st I L P nx cs sl) : zW y R mc ms Q pc lv (.int b :: .int a :: st) I L P nx cs sl := fun G p l e s m args below meth c H locs ls C hR hS hl => lv_icmp_eq C.1 C.2.1 h ht (fun q => kt q G p l e s m args below meth c H locs ls C hR hS hl) (fun q => kf q G p l e s m args below meth c H locs ls C hR hS hl)
theorem z_if_ne {a : Int32} {off : Int} {tgt : Nat} (h : decode y.2.1 pc = .ok (.ifCond .ne off, 3)) (ht : (pc : Int) + off = (tgt : Int)) (kt : ¬ a = 0 → zW y R mc ms Q tgt lv st I L P nx cs sl) (kf : a = 0 → zW y R mc ms Q (pc + 3) lv st I L P nx cs sl) : zW y R mc ms Q pc lv (.int a :: st) I L P nx cs sl := fun G p l e s m args below meth c H locs ls C hR hS hl => lv_if_ne C.1 C.2.1 h ht (fun q => kt q G p l e s m args below meth c H locs ls C hR hS hl) (fun q => kf q G p l e s m args below meth c H locs ls C hR hS hl)
theorem z_icmp_ne {a b : Int32} {off : Int} {tgt : Nat} (h : decode y.2.1 pc = .ok (.if_icmp .ne off, 3)) (ht : (pc : Int) + off = (tgt : Int)) (kt : ¬ a = b → zW y R mc ms Q tgt lv st I L P nx cs sl) (kf : a = b → zW y R mc ms Q (pc + 3) lv st I L P nx cs sl) : zW y R mc ms Q pc lv (.int b :: .int a :: st) I L P nx cs sl := fun G p l e s m args below meth c H locs ls C hR hS hl => lv_icmp_ne C.1 C.2.1 h ht (fun q => kt q G p l e s m args below meth c H locs ls C hR hS hl) (fun q => kf q G p l e s m args below meth c H locs ls C hR hS hl)
theorem z_if_lt {a : Int32} {off : Int} {tgt : Nat} (h : decode y.2.1 pc = .ok (.ifCond .lt off, 3)) (ht : (pc : Int) + off = (tgt : Int)) (kt : a < 0 → zW y R mc ms Q tgt lv st I L P nx cs sl) (kf : ¬ a < 0 → zW y R mc ms Q (pc + 3) lv st I L P nx cs sl) : zW y R mc ms Q pc lv (.int a :: st) I L P nx cs sl := fun G p l e s m args below meth c H locs ls C hR hS hl => lv_if_lt C.1 C.2.1 h ht (fun q => kt q G p l e s m args below meth c H locs ls C hR hS hl) (fun q => kf q G p l e s m args below meth c H locs ls C hR hS hl)
theorem z_icmp_lt {a b : Int32} {off : Int} {tgt : Nat} (h : decode y.2.1 pc = .ok (.if_icmp .lt off, 3)) (ht : (pc : Int) + off = (tgt : Int)) (kt : a < b → zW y R mc ms Q tgt lv st I L P nx cs sl) (kf : ¬ a < b → zW y R mc ms Q (pc + 3) lv st I L P nx cs sl) : zW y R mc ms Q pc lv (.int b :: .int a :: st) I L P nx cs sl := fun G p l e s m args below meth c H locs ls C hR hS hl => lv_icmp_lt C.1 C.2.1 h ht (fun q => kt q G p l e s m args below meth c H locs ls C hR hS hl) (fun q => kf q G p l e s m args below meth c H locs ls C hR hS hl)
theorem z_if_ge {a : Int32} {off : Int} {tgt : Nat} (h : decode y.2.1 pc = .ok (.ifCond .ge off, 3)) (ht : (pc : Int) + off = (tgt : Int)) (kt : 0 ≤ a → zW y R mc ms Q tgt lv st I L P nx cs sl) (kf : ¬ 0 ≤ a → zW y R mc ms Q (pc + 3) lv st I L P nx cs sl) : zW y R mc ms Q pc lv (.int a :: st) I L P nx cs sl := fun G p l e s m args below meth c H locs ls C hR hS hl => lv_if_ge C.1 C.2.1 h ht (fun q => kt q G p l e s m args below meth c H locs ls C hR hS hl) (fun q => kf q G p l e s m args below meth c H locs ls C hR hS hl)
theorem z_icmp_ge {a b : Int32} {off : Int} {tgt : Nat} (h : decode y.2.1 pc = .ok (.if_icmp .ge off, 3)) (ht : (pc : Int) + off = (tgt : Int)) (kt : b ≤ a → zW y R mc ms Q tgt lv st I L P nx cs sl) (kf : ¬ b ≤ a → zW y R mc ms Q (pc + 3) lv st I L P nx cs sl) : zW y R mc ms Q pc lv (.int b :: .int a :: st) I L P nx cs sl := fun G p l e s m args below meth c H locs ls C hR hS hl => lv_icmp_ge C.1 C.2.1 h ht (fun q => kt q G p l e s m args below meth c H locs ls C hR hS hl) (fun q => kf q G p l e s m args below meth c H locs ls C hR hS hl)
theorem z_if_gt {a : Int32} {off : Int} {tgt : Nat} (h : decode y.2.1 pc = .ok (.ifCond .gt off, 3)) (ht : (pc : Int) + off = (tgt : Int)) (kt : 0 < a → zW y R mc ms Q tgt lv st I L P nx cs sl) (kf : ¬ 0 < a → zW y R mc ms Q (pc + 3) lv st I L P nx cs sl) : zW y R mc ms Q pc lv (.int a :: st) I L P nx cs sl := fun G p l e s m args below meth c H locs ls C hR hS hl => lv_if_gt C.1 C.2.1 h ht (fun q => kt q G p l e s m args below meth c H locs ls C hR hS hl) (fun q => kf q G p l e s m args below meth c H locs ls C hR hS hl)
theorem z_icmp_gt {a b : Int32} {off : Int} {tgt : Nat} (h : decode y.2.1 pc = .ok (.if_icmp .gt off, 3)) (ht : (pc : Int) + off = (tgt : Int)) (kt : b < a → zW y R mc ms Q tgt lv st I L P nx cs sl) (kf : ¬ b < a → zW y R mc ms Q (pc + 3) lv st I L P nx cs sl) : zW y R mc ms Q pc lv (.int b :: .int a :: st) I L P nx cs sl := fun G p l e s m args below meth c H locs ls C hR hS hl => lv_icmp_gt C.1 C.2.1 h ht (fun q => kt q G p l e s m args below meth c H locs ls C hR hS hl) (fun q => kf q G p l e s m args below meth c H locs ls C hR hS hl)
theorem z_if_le {a : Int32} {off : Int} {tgt : Nat} (h : decode y.2.1 pc = .ok (.ifCond .le off, 3)) (ht : (pc : Int) + off = (tgt : Int)) (kt : a ≤ 0 → zW y R mc ms Q tgt lv st I L P nx cs sl) (kf : ¬ a ≤ 0 → zW y R mc ms Q (pc + 3) lv st I L P nx cs sl) : zW y R mc ms Q pc lv (.int a :: st) I L P nx cs sl := fun G p l e s m args below meth c H locs ls C hR hS hl => lv_if_le C.1 C.2.1 h ht (fun q => kt q G p l e s m args below meth c H locs ls C hR hS hl) (fun q => kf q G p l e s m args below meth c H locs ls C hR hS hl)
theorem z_icmp_le {a b : Int32} {off : Int} {tgt : Nat} (h : decode y.2.1 pc = .ok (.if_icmp .le off, 3)) (ht : (pc : Int) + off = (tgt : Int)) (kt : a ≤ b → zW y R mc ms Q tgt lv st I L P nx cs sl) (kf : ¬ a ≤ b → zW y R mc ms Q (pc + 3) lv st I L P nx cs sl) : zW y R mc ms Q pc lv (.int b :: .int a :: st) I L P nx cs sl := fun G p l e s m args below meth c H locs ls C hR hS hl => lv_icmp_le C.1 C.2.1 h ht (fun q => kt q G p l e s m args below meth c H locs ls C hR hS hl) (fun q => kf q G p l e s m args below meth c H locs ls C hR hS hl)
theorem z_goto {off : Int} {tgt : Nat} (h : decode y.2.1 pc = .ok (.goto off, 3)) (ht : (pc : Int) + off = (tgt : Int)) (k : zW y R mc ms Q tgt lv st I L P nx cs sl) : zW y R mc ms Q pc lv st I L P nx cs sl := fun G p l e s m args below meth c H locs ls C hR hS hl => lv_goto C.1 C.2.1 h ht (k G p l e s m args below meth c H locs ls C hR hS hl)
theorem z_lookup {dflt : Int} {ps : Array (Int × Int)} {len : Nat} {a : Int32} {off : Int} {tgt : Nat} (h : decode y.2.1 pc = .ok (.lookupswitch dflt ps, len)) (hp : (ps.toList.zip (ps.toList.drop 1)).all (fun (a, next) => a.1 < next.1) = true) (ho : Op.lookupswitch.offset ps.toList dflt a.toInt = off) (ht : (pc : Int) + off = (tgt : Int)) (k : zW y R mc ms Q tgt lv st I L P nx cs sl) : zW y R mc ms Q pc lv (.int a :: st) I L P nx cs sl := fun G p l e s m args below meth c H locs ls C hR hS hl => lv_lookup C.1 C.2.1 h hp ho ht (k G p l e s m args below meth c H locs ls C hR hS hl)
theorem z_tableOut {dflt lo hi : Int} {offs : Array Int} {len : Nat} {a : Int32} {tgt : Nat} (h : decode y.2.1 pc = .ok (.tableswitch dflt lo hi offs, len)) (hq : a.toInt < lo ∨ hi < a.toInt) (ht : (pc : Int) + dflt = (tgt : Int)) (k : zW y R mc ms Q tgt lv st I L P nx cs sl) : zW y R mc ms Q pc lv (.int a :: st) I L P nx cs sl := fun G p l e s m args below meth c H locs ls C hR hS hl => lv_tableOut C.1 C.2.1 h hq ht (k G p l e s m args below meth c H locs ls C hR hS hl)
theorem z_tableIn {dflt lo hi : Int} {offs : Array Int} {len : Nat} {a : Int32} {off : Int} {tgt : Nat} (h : decode y.2.1 pc = .ok (.tableswitch dflt lo hi offs, len)) (h1 : ¬ a.toInt < lo) (h2 : ¬ hi < a.toInt) (ho : offs[(a.toInt - lo).toNat]? = some off) (ht : (pc : Int) + off = (tgt : Int)) (k : zW y R mc ms Q tgt lv st I L P nx cs sl) : zW y R mc ms Q pc lv (.int a :: st) I L P nx cs sl := fun G p l e s m args below meth c H locs ls C hR hS hl => lv_tableIn C.1 C.2.1 h h1 h2 ho ht (k G p l e s m args below meth c H locs ls C hR hS hl)
end ZR
