/-! ===== mu: an array of arrays of ints is made, as the machine makes it: the outer one first, then row by row ===== -/
def mu_o (cA : ClassId) (N h i : Nat) : Cell := arrV cA N (fun j => if j < i then .ref (h + 1 + j) else .null)
def mu_r (cB : ClassId) (M : Nat) : Cell := arrV cB M (fun _ => .int 0)
def mu_s (U : State) (cA cB : ClassId) (N M : Nat) : Nat → State
  | 0 => U.pushCell (mu_o cA N U.heap.size 0)
  | i + 1 => ((mu_s U cA cB N M i).pushCell (mu_r cB M)).setCell U.heap.size (mu_o cA N U.heap.size (i + 1))
theorem mu_o_zero (cA : ClassId) (N h : Nat) : ({ cls := cA, slots := Array.replicate N .null, vm := .none } : Cell) = mu_o cA N h 0 := by
  rw [arrV_new]
  exact congrArg (arrV cA N) (funext (fun j => (if_neg (Nat.not_lt_zero j)).symm))
theorem mu_o_next (cA : ClassId) (N h i : Nat) : (mu_o cA N h i).setSlot i (.ref (h + 1 + i)) = mu_o cA N h (i + 1) := by
  unfold mu_o
  rw [arrV_store]
  refine congrArg (arrV cA N) (funext (fun j => ?_))
  unfold updV
  by_cases hj : j = i
  · subst hj
    simp
  · rw [if_neg hj]
    show (if j < i then Value.ref (h + 1 + j) else Value.null) = _
    by_cases h2 : j < i
    · rw [if_pos h2, if_pos (by omega)]
    · rw [if_neg h2, if_neg (by omega)]
theorem mu_put {α : Type} (A : Array α) (o o' r : α) (i : Nat) : ((A.push o ++ Array.replicate i r).push r).setIfInBounds A.size o' = A.push o' ++ Array.replicate (i + 1) r := by
  apply Array.ext_getElem?
  intro q
  rw [Array.getElem?_setIfInBounds, Array.getElem?_push, Array.getElem?_append, Array.getElem?_append, Array.getElem?_push, Array.getElem?_push, Array.getElem?_replicate, Array.getElem?_replicate]
  simp only [Array.size_push, Array.size_append, Array.size_replicate]
  rcases Nat.lt_trichotomy q A.size with h | h | h
  · rw [if_neg (show ¬ A.size = q by omega), if_neg (show ¬ q = A.size + 1 + i by omega), if_pos (show q < A.size + 1 by omega), if_neg (show ¬ q = A.size by omega), if_pos (show q < A.size + 1 by omega), if_neg (show ¬ q = A.size by omega)]
  · subst h
    rw [if_pos rfl, if_pos (by omega), if_pos (by omega), if_pos rfl]
  · rw [if_neg (by omega), if_neg (show ¬ q < A.size + 1 by omega), if_neg (show ¬ q < A.size + 1 by omega)]
    by_cases h2 : q = A.size + 1 + i
    · rw [if_pos h2, if_pos (by omega)]
    · rw [if_neg h2]
      by_cases h3 : q - (A.size + 1) < i
      · rw [if_pos h3, if_pos (by omega)]
      · rw [if_neg h3, if_neg (by omega)]
/-- the heap, in one word -/
theorem mu_heap (U : State) (cA cB : ClassId) (N M : Nat) : ∀ i, (mu_s U cA cB N M i).heap = U.heap.push (mu_o cA N U.heap.size i) ++ Array.replicate i (mu_r cB M)
  | 0 => by
    show U.heap.push _ = _
    simp
  | i + 1 => by
    show ((mu_s U cA cB N M i).heap.push (mu_r cB M)).setIfInBounds U.heap.size (mu_o cA N U.heap.size (i + 1)) = _
    rw [mu_heap U cA cB N M i]
    exact mu_put U.heap _ _ _ i
theorem mu_size (U : State) (cA cB : ClassId) (N M i : Nat) : (mu_s U cA cB N M i).heap.size = U.heap.size + 1 + i := by
  rw [mu_heap]
  simp
theorem mu_at (U : State) (cA cB : ClassId) (N M i : Nat) : ((mu_s U cA cB N M i).pushCell (mu_r cB M)).heap[U.heap.size]? = some (mu_o cA N U.heap.size i) := by
  show ((mu_s U cA cB N M i).heap.push _)[_]? = _
  rw [Array.getElem?_push, if_neg (by rw [mu_size]; omega), mu_heap, Array.getElem?_append, if_pos (by simp), Array.getElem?_push, if_pos rfl]
theorem mu_vm (U : State) (cA cB : ClassId) (N M : Nat) : ∀ i, (mu_s U cA cB N M i).vm = U.vm
  | 0 => rfl
  | i + 1 => mu_vm U cA cB N M i
theorem mu_used (U : State) (cA cB : ClassId) (N M : Nat) : ∀ i, (mu_s U cA cB N M i).slotsUsed = U.slotsUsed + N + i * M
  | 0 => by
    show U.slotsUsed + (arrV cA N _).slots.size = _
    rw [arrV_size, Nat.zero_mul]
    rfl
  | i + 1 => by
    show (mu_s U cA cB N M i).slotsUsed + (arrV cB M _).slots.size = _
    rw [arrV_size, mu_used U cA cB N M i, Nat.succ_mul, Nat.add_assoc]
theorem mu_top (U : State) (f : JFrame) (cA cB : ClassId) (N M : Nat) : ∀ i, mu_s (U.setTop f) cA cB N M i = (mu_s U cA cB N M i).setTop f
  | 0 => rfl
  | i + 1 => by
    show ((mu_s (U.setTop f) cA cB N M i).pushCell _).setCell U.heap.size _ = _
    rw [mu_top U f cA cB N M i]
    rfl
section MUST
variable {p : Program} {l : Launch} {e : Env} {R : Room} {s : State} {m : MethodId} {args : Array Value} {below : List Frame} {meth : Method} {c : Code} {T : State} {locs : List Loc} {cells slots : Nat}
theorem mu_stand (X : Stand p l e R s m args below meth c T locs cells slots) (cA cB : ClassId) (N M : Nat) : ∀ i, Stand p l e R s m args below meth c (mu_s T cA cB N M i) locs (cells + 1 + i) (slots + N + i * M)
  | 0 => by
    have h := X.pushed (mu_o cA N T.heap.size 0)
    rw [show (mu_o cA N T.heap.size 0).slots.size = N from arrV_size _ _ _] at h
    rw [Nat.zero_mul]
    exact h
  | i + 1 => by
    have h := ((mu_stand X cA cB N M i).pushed (mu_r cB M)).stored (mu_at T cA cB N M i) i (.ref (T.heap.size + 1 + i))
    rw [mu_o_next, show (mu_r cB M).slots.size = M from arrV_size _ _ _] at h
    have h' := Stand.dropFresh h (fun x hx => by
      rw [List.mem_singleton.mp hx]
      exact X.heapGrown)
    rw [show slots + N + (i + 1) * M = slots + N + i * M + M by rw [Nat.succ_mul]; omega]
    exact h'
end MUST
section MUWP
variable {E : CtlPost} {e : Env} {U : State}
theorem mu_loop {cA cB : ClassId} {N M : Nat} {f : Nat → PUnit → Sem (ForInStep PUnit)} {Q : PUnit → Pre}
    (hf : ∀ i, i < N → ∀ d acts (Q' : ForInStep PUnit → Pre), (∀ d' acts', Q' (.yield PUnit.unit) d' acts' (mu_s U cA cB N M (i + 1))) → wp (f i PUnit.unit) Q' E e d acts (mu_s U cA cB N M i))
    (hq : ∀ d' acts', Q PUnit.unit d' acts' (mu_s U cA cB N M N)) : ∀ r i, i + r = N → ∀ d acts, wp (forIn (List.range' i r) PUnit.unit f) Q E e d acts (mu_s U cA cB N M i)
  | 0, i, h, d, acts => by
    rw [show i = N by omega]
    simp only [List.range'_zero, List.forIn_nil, wp_pure']
    exact hq d acts
  | r + 1, i, h, d, acts => by
    simp only [List.range'_succ, List.forIn_cons, wp_bind']
    exact hf i (by omega) d acts _ (fun d' acts' => mu_loop hf hq r (i + 1) (by omega) d' acts')
theorem mu_row {cB cc : ClassId} {kB : Class} {k : Int32} {d : Bool} {acts : List Action} (hkB : U.vm.classes[cB]? = some kB) (hB : kB.kind = .array cc .int) (hk : ¬ k < 0) (hl : ¬ k.toNatClampNeg > e.platform.arrayLengthLimit) (hh : ¬ k.toNatClampNeg * componentBytes .int > e.platform.maxHeapBytes)
    (h1 : U.heap.size < e.platform.maxCells) (h2 : U.slotsUsed + k.toNatClampNeg ≤ e.platform.maxSlots) {Q : Addr → Pre} (hq : ∀ acts', Q U.heap.size d acts' (U.pushCell (mu_r cB k.toNatClampNeg))) : wp (Jvm.Op.multianewarray.make cB [k]) Q E e d acts U := by
  rw [Jvm.Op.multianewarray.make]
  simp only [wp_bind', W.ite, hk, if_false, wp_pure', W.theClass, hkB, hB, Option.some.injEq, exists_eq_left']
  refine W.newArray_of hkB hB hl hh h1 h2 rfl (fun acts' => ?_)
  have e1 : ({ cls := cB, slots := Array.replicate k.toNatClampNeg (defaultValue .int) } : Cell) = mu_r cB k.toNatClampNeg := arrV_new _ _ _
  rw [e1]
  exact hq acts'
set_option maxHeartbeats 1000000 in
theorem mu_make {cA cB cc : ClassId} {kA kB : Class} {n k : Int32} {d : Bool} {acts : List Action} (hkA : U.vm.classes[cA]? = some kA) (hA : kA.kind = .array cB (.array .int)) (hkB : U.vm.classes[cB]? = some kB) (hB : kB.kind = .array cc .int) (hn : ¬ n < 0) (hk : ¬ k < 0)
    (hl1 : ¬ n.toNatClampNeg > e.platform.arrayLengthLimit) (hh1 : ¬ n.toNatClampNeg * componentBytes (.array .int) > e.platform.maxHeapBytes) (hl2 : ¬ k.toNatClampNeg > e.platform.arrayLengthLimit) (hh2 : ¬ k.toNatClampNeg * componentBytes .int > e.platform.maxHeapBytes)
    (hc : U.heap.size + (1 + n.toNatClampNeg) ≤ e.platform.maxCells) (hs : U.slotsUsed + (n.toNatClampNeg + n.toNatClampNeg * k.toNatClampNeg) ≤ e.platform.maxSlots)
    {Q : Addr → Pre} (hq : ∀ d' acts', Q U.heap.size d' acts' (mu_s U cA cB n.toNatClampNeg k.toNatClampNeg n.toNatClampNeg)) : wp (Jvm.Op.multianewarray.make cA [n, k]) Q E e d acts U := by
  rw [Jvm.Op.multianewarray.make]
  simp only [wp_bind', W.ite, hn, if_false, wp_pure', W.theClass, hkA, hA, Option.some.injEq, exists_eq_left']
  refine W.newArray_of hkA hA hl1 hh1 (by omega) (by omega) rfl (fun acts' => ?_)
  have e1 : ({ cls := cA, slots := Array.replicate n.toNatClampNeg .null } : Cell) = mu_o cA n.toNatClampNeg U.heap.size 0 := mu_o_zero _ _ _
  rw [e1]
  have e2 : ([k].find? (· < 0)) = none := by simp [hk]
  simp only [e2]
  rw [ite_self, wp_bind', Std.Legacy.Range.forIn_eq_forIn_range', show ([:n.toNatClampNeg] : Std.Legacy.Range).size = n.toNatClampNeg by simp [Std.Legacy.Range.size]]
  refine mu_loop (U := U) (cA := cA) (cB := cB) (N := n.toNatClampNeg) (M := k.toNatClampNeg) (fun i hi d1 acts1 Q' h' => ?_) (fun d' acts2 => ?_) n.toNatClampNeg 0 (Nat.zero_add _) d acts'
  · have hm : (i + 1) * k.toNatClampNeg ≤ n.toNatClampNeg * k.toNatClampNeg := Nat.mul_le_mul_right _ hi
    rw [Nat.succ_mul] at hm
    simp only [wp_bind']
    refine mu_row (by rw [mu_vm]; exact hkB) hB hk hl2 hh2 (by rw [mu_size]; omega) (by rw [mu_used]; omega) (fun acts3 => ?_)
    simp only [wp_bind', W.writeLoc, wp_pure']
    refine ⟨mu_o cA n.toNatClampNeg U.heap.size i, mu_at U cA cB _ _ i, fun h => (by cases h), by rw [show (mu_o cA n.toNatClampNeg U.heap.size i).slots.size = n.toNatClampNeg from arrV_size _ _ _]; exact hi, ?_, ?_⟩
    · show State.fitsSlot _ cA .none i _ = true
      simp [State.fitsSlot, State.slotType?, mu_vm, hkA, hA]
      rfl
    · rw [mu_size, mu_o_next]
      exact h' _ _
  · exact hq _ _
end MUWP
section MUW
variable {p : Program} {l : Launch} {e : Env} {R : Room} {s : State} {m : MethodId} {args : Array Value} {below : List Frame} {meth : Method} {c : Code} {H : Heap} {locs : List Loc} {cells slots : Nat} {Q : State → Prop}
set_option maxHeartbeats 1000000 in
theorem mu_W {cd : ByteArray} (hexec : p.tables.exec = Jvm.exec) (hb : c.code = cd) {own : String} {index : Nat} (hown : s.vm.findClass own = some m.cls) (hclink : (Cond.classLink own index ("[" ++ (FieldType.array .int).toString)).before args s = true)
    (hover : (Cond.arrayOver (.array .int)).before args s = true) (harr : (Cond.arrayClass .int).before args s = true) {g : JFrame} (hg : g.method = m) (hdg : decode cd g.pc = .ok (.multianewarray index 2, 4)) {n k : Int32} {rest : List Value} (hstack : g.stack = .int k :: .int n :: rest)
    (hn : ¬ n < 0) (hk : ¬ k < 0) (hN : n.toNatClampNeg * 4 ≤ 536870912) (hM : k.toNatClampNeg * 4 ≤ 536870912) (hcells : cells + (1 + n.toNatClampNeg) ≤ R.cells) (hslots : slots + (n.toNatClampNeg + n.toNatClampNeg * k.toNatClampNeg) ≤ R.slots)
    (kk : ∀ cA cB : ClassId, s.vm.findClass ("[" ++ (FieldType.array .int).toString) = some cA → s.vm.findClass (FieldType.array .int).toString = some cB →
      W p l e R s m args below meth c (H.push (mu_o cA n.toNatClampNeg H.size n.toNatClampNeg) ++ Array.replicate n.toNatClampNeg (mu_r cB k.toNatClampNeg)) locs (cells + 1 + n.toNatClampNeg) (slots + n.toNatClampNeg + n.toNatClampNeg * k.toNatClampNeg) Q { g with pc := g.pc + 4, stack := .ref H.size :: rest }) :
    W p l e R s m args below meth c H locs cells slots Q g := by
  intro T hT X
  subst hT
  subst hb
  subst hg
  obtain ⟨cB, cA, kA, hcB, -, hkA, hA, hcA⟩ := arrayOverA_spec hover
  obtain ⟨cB', kB, cc, hcB', hkB, hB⟩ := Cond.arrayClass_spec harr
  cases Option.some.inj (hcB'.symm.trans hcB)
  obtain ⟨cA', hcA', hlink⟩ := Cond.classLink_spec hown hclink e.platform (by rw [X.admits.platform])
  cases Option.some.inj (hcA'.symm.trans hcA)
  obtain ⟨gives, hW, -⟩ := State.classEntry (e := e) X.warmed hlink
  generalize T.vm.noted g.method.cls index (.cls cA) = vm1 at gives hW
  obtain ⟨kA1, hkA1, eA⟩ := hW.alike.2.2 _ _ hkA
  obtain ⟨kB1, hkB1, eB⟩ := hW.alike.2.2 _ _ hkB
  have X1 := mu_stand (X.noted hW) cA cB n.toNatClampNeg k.toNatClampNeg n.toNatClampNeg
  obtain ⟨r1, r2⟩ := X.roomAbove hcells hslots
  obtain ⟨t, a1, b1⟩ := kk cA cB hcA hcB _ (mu_heap (T.setVm vm1) cA cB n.toNatClampNeg k.toNatClampNeg n.toNatClampNeg) X1
  refine ⟨t, ?_, b1⟩
  have hl := Launch.admits_arrayLengthLimit X.admits
  have hh := Launch.admits_maxHeapBytes X.admits
  jvm_step X.here [hexec, hdg]
  simp only [Jvm.Op.multianewarray.sem, wp_bind', W.resolveClassAt_links (State.method?_setTop g X.here.top) gives]
  rw [W.popN, if_neg (by decide)]
  refine ⟨g, State.topJava?_setTop' (s := T.setVm vm1) g X.here.top, [.int n, .int k], rest, rfl, hstack, ?_⟩
  simp only [List.mapM_cons, List.mapM_nil, wp_bind', wp_pure']
  refine mu_make (U := ((T.setTop g).setVm vm1).setTop { g with stack := rest }) (kA := kA1) (kB := kB1) (cc := cc) hkA1 (by rw [eA]; exact hA) hkB1 (by rw [eB]; exact hB) hn hk (by rw [hl]; omega) (by rw [hh]; show ¬ n.toNatClampNeg * 4 > 536870912; omega) (by rw [hl]; omega) (by rw [hh]; show ¬ k.toNatClampNeg * 4 > 536870912; omega) r1 r2 (fun d' acts' => ?_)
  rw [show ((T.setTop g).setVm vm1).setTop { g with stack := rest } = (T.setVm vm1).setTop { g with stack := rest } from State.setTop_setTop (T.setVm vm1) g _, mu_top]
  simp only [wp_bind', W.mark, W.pushRef, State.topJava?_setTop' _ X1.here.top, Option.some.injEq, exists_eq_left', State.setTop_setTop, State.heap_setTop]
  intro acts
  simp [jvm, X1.here.top]
  exact a1
end MUW
