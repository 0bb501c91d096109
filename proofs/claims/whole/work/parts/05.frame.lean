/-- what a cell is: below 100 an object of that class; 100 int[], 101 long[], 102 byte[], 103 boolean[], 104 int[][], 105 Scene[], with the length -/
def zshL : List (Nat × Nat) := [(10, 0), (7, 0), (102, 1600), (0, 0), (100, 600), (2, 0), (101, 8), (100, 8), (0, 0), (100, 600), (100, 7), (2, 0), (101, 8), (100, 8), (0, 0), (100, 600), (100, 7), (4, 0), (8, 0), (101, 17), (100, 1601), (100, 1601), (101, 1601), (3, 0), (104, 44), (100, 256), (100, 256), (100, 256), (100, 256), (100, 256), (100, 256), (100, 256), (100, 256), (100, 256), (100, 256), (100, 256), (100, 256), (100, 256), (100, 256), (100, 256), (100, 256), (100, 256), (100, 256), (100, 256), (100, 256), (100, 256), (100, 256), (100, 256), (100, 256), (100, 256), (100, 256), (100, 256), (100, 256), (100, 256), (100, 256), (100, 256), (100, 256), (100, 256), (100, 256), (100, 256), (100, 256), (100, 256), (100, 256), (100, 256), (100, 256), (100, 256), (100, 256), (100, 256), (100, 256), (100, 256), (100, 256), (100, 256), (100, 256), (5, 0), (9, 0), (104, 8), (100, 256), (100, 256), (100, 256), (100, 256), (100, 256), (100, 256), (100, 256), (100, 256), (100, 512), (100, 256), (5, 0), (100, 256), (105, 3), (103, 3), (6, 0), (100, 20), (100, 20), (103, 20), (100, 20), (100, 20), (1, 0), (104, 7), (100, 64), (100, 64), (100, 64), (100, 64), (100, 64), (100, 64), (100, 64), (100, 256), (100, 256), (5, 0), (9, 0), (104, 8), (100, 256), (100, 256), (100, 256), (100, 256), (100, 256), (100, 256), (100, 256), (100, 256), (100, 512), (100, 256), (101, 256), (5, 0), (9, 0), (104, 8), (100, 256), (100, 256), (100, 256), (100, 256), (100, 256), (100, 256), (100, 256), (100, 256), (100, 512), (100, 256), (5, 0), (9, 0), (104, 8), (100, 256), (100, 256), (100, 256), (100, 256), (100, 256), (100, 256), (100, 256), (100, 256), (100, 512), (100, 256), (5, 0), (9, 0), (104, 8), (100, 256), (100, 256), (100, 256), (100, 256), (100, 256), (100, 256), (100, 256), (100, 256), (100, 512), (100, 256), (11, 0), (102, 1620), (102, 1600), (100, 2), (100, 2), (100, 2), (100, 3), (100, 2), (100, 16), (100, 12), (100, 12), (103, 2), (103, 2), (103, 16), (101, 16), (100, 2100), (100, 2100), (100, 90), (100, 90), (100, 90), (103, 256), (103, 2048), (100, 8), (100, 12288), (100, 256), (100, 256), (100, 256), (103, 256), (100, 256), (100, 20), (100, 20), (100, 20), (100, 20), (100, 64), (100, 64), (100, 64), (100, 64), (103, 20), (103, 64), (100, 4), (100, 4), (100, 4), (100, 32), (103, 1024), (103, 8192)]
def zsh (a : Nat) : Nat × Nat := zshL.getD a (999, 0)
def zfv (G : zG) (I : zI) (L : zL) (P : zP) (a j : Nat) (ty : FieldType) : Value := match ty with
  | .long => .long (L a j)
  | .object _ => zrf G (P a j)
  | .array _ => zrf G (P a j)
  | _ => .int (I a j)
def zfl (G : zG) (I : zI) (L : zL) (P : zP) (a c : Nat) : List Value := (List.range (znf c)).map (fun j => zfv G I L P a j (zty c j))
def zar (G : zG) (I : zI) (L : zL) (P : zP) (a k n : Nat) : vp_A := (n, if k = 101 then .inr (.inl (L a)) else if 104 ≤ k then .inr (.inr (.inr (.inr (fun j => (P a j).map (zad G))))) else .inl (I a))
def zE (G : zG) (I : zI) (L : zL) (P : zP) (a : Nat) : va_E := if (zsh a).1 < 100 then .inr ((zsh a).1, zfl G I L P a (zsh a).1) else .inl (G.2.2.1 (zsh a).1, zar G I L P a (zsh a).1 (zsh a).2)
def zws (G : zG) (I : zI) (L : zL) (P : zP) (nx : Nat) : va_W := (List.range nx).map (fun a => (G.1 + a, zE G I L P a))
def zA (G : zG) : Nat → Prop := fun q => G.1 ≤ q
theorem zws_at {G : zG} {I : zI} {L : zL} {P : zP} {nx a : Nat} (h : a < nx) : (zws G I L P nx)[a]? = some (G.1 + a, zE G I L P a) := by
  unfold zws
  rw [List.getElem?_map, List.getElem?_range h]
  rfl
theorem zws_D (G : zG) (I : zI) (L : zL) (P : zP) (nx : Nat) : va_D (zA G) (zws G I L P nx) := by
  have key : ∀ (k : Nat) (q : Nat × va_E), (zws G I L P nx)[k]? = some q → q.1 = G.1 + k := by
    intro k q hq
    have hk : k < nx := by
      have := (List.getElem?_eq_some_iff.mp hq).1
      simpa [zws] using this
    rw [zws_at hk] at hq
    cases hq
    rfl
  refine ⟨fun i j p q hi hj hpq => ?_, fun k q hk => ?_⟩
  · have := key i p hi
    have := key j q hj
    omega
  · show G.1 ≤ q.1
    have := key k q hk
    omega
theorem zws_set {G : zG} {I I' : zI} {L L' : zL} {P P' : zP} {nx a : Nat} {e : va_E} (ha : e = zE G I' L' P' a) (ho : ∀ b, b ≠ a → zE G I' L' P' b = zE G I L P b) : (zws G I L P nx).set a (G.1 + a, e) = zws G I' L' P' nx := by
  apply List.ext_getElem?
  intro k
  by_cases hk : k < nx
  · rw [zws_at hk]
    by_cases hka : k = a
    · subst hka
      rw [List.getElem?_set_self (by simpa [zws] using hk), ha]
    · rw [List.getElem?_set_ne (Ne.symm hka), zws_at hk, ho k hka]
  · rw [List.getElem?_eq_none (by simp [zws]; omega), List.getElem?_eq_none (by simp [zws]; omega)]
theorem zws_push {G : zG} {I : zI} {L : zL} {P : zP} {nx : Nat} : zws G I L P nx ++ [(G.1 + nx, zE G I L P nx)] = zws G I L P (nx + 1) := by
  unfold zws
  rw [List.range_succ, List.map_append]
  rfl
theorem zws_congr {G : zG} {I I' : zI} {L L' : zL} {P P' : zP} {nx : Nat} (h : ∀ b, b < nx → zE G I' L' P' b = zE G I L P b) : zws G I' L' P' nx = zws G I L P nx := by
  unfold zws
  apply List.map_congr_left
  intro b hb
  rw [h b (List.mem_range.mp hb)]
/-! updates -/
def zuI (I : zI) (a k : Nat) (v : Int32) : zI := fun b => if b = a then upd (I a) k v else I b
def zuL (L : zL) (a k : Nat) (v : Int64) : zL := fun b => if b = a then vp_updL (L a) k v else L b
def zuP (P : zP) (a k : Nat) (v : Option Nat) : zP := fun b => if b = a then va_up (P a) k v else P b
def zaI (I : zI) (a : Nat) (f : Nat → Int32) : zI := fun b => if b = a then f else I b
def zaL (L : zL) (a : Nat) (f : Nat → Int64) : zL := fun b => if b = a then f else L b
def zaP (P : zP) (a : Nat) (f : Nat → Option Nat) : zP := fun b => if b = a then f else P b
theorem zE_congr {G : zG} {I I' : zI} {L L' : zL} {P P' : zP} {a : Nat} (h1 : I' a = I a) (h2 : L' a = L a) (h3 : P' a = P a) : zE G I' L' P' a = zE G I L P a := by
  unfold zE zfl zar zfv
  rw [h1, h2, h3]
theorem zE_obj {G : zG} {I : zI} {L : zL} {P : zP} {a c : Nat} (hs : (zsh a).1 = c) (hc : c < 12) : zE G I L P a = .inr (c, zfl G I L P a c) := by
  unfold zE
  rw [if_pos (by omega), hs]
theorem zE_arr {G : zG} {I : zI} {L : zL} {P : zP} {a k n : Nat} (hs : zsh a = (k, n)) (hk : 100 ≤ k) : zE G I L P a = .inl (G.2.2.1 k, zar G I L P a k n) := by
  unfold zE
  rw [hs, if_neg (by show ¬ k < 100; omega)]
theorem zfl_at {G : zG} {I : zI} {L : zL} {P : zP} {a c k : Nat} (hk : k < znf c) : (zfl G I L P a c)[k]? = some (zfv G I L P a k (zty c k)) := by
  unfold zfl
  rw [List.getElem?_map, List.getElem?_range hk]
  rfl
theorem zfl_len {G : zG} {I : zI} {L : zL} {P : zP} {a c : Nat} : (zfl G I L P a c).length = znf c := by simp [zfl]
theorem zfl_set {G : zG} {I I' : zI} {L L' : zL} {P P' : zP} {a c k : Nat} {v : Value} (hv : v = zfv G I' L' P' a k (zty c k)) (ho : ∀ j, j ≠ k → zfv G I' L' P' a j (zty c j) = zfv G I L P a j (zty c j)) : (zfl G I L P a c).set k v = zfl G I' L' P' a c := by
  apply List.ext_getElem?
  intro j
  by_cases hj : j < znf c
  · rw [zfl_at hj]
    by_cases hjk : j = k
    · subst hjk
      rw [List.getElem?_set_self (by rw [zfl_len]; exact hj), hv]
    · rw [List.getElem?_set_ne (Ne.symm hjk), zfl_at hj, ho j hjk]
  · rw [List.getElem?_eq_none (by rw [List.length_set, zfl_len]; omega), List.getElem?_eq_none (by rw [zfl_len]; omega)]
/-! ===== z, 2: what a method's start and end are; a walk's judgement ===== -/
def zNN : Nat := 205
def zRel (G : zG) (I : zI) (L : zL) (P : zP) (nx : Nat) (H : Heap) : Prop := (nx < 205 → H.size = G.1 + nx) ∧ nx ≤ 205 ∧ va_P G.2.1 vwCl (zws G I L P nx) H
def ztys (G : zG) : List (ClassId × FieldType) := [(G.2.2.1 100, .int), (G.2.2.1 101, .long), (G.2.2.1 102, .byte), (G.2.2.1 103, .boolean), (G.2.2.1 104, .array .int), (G.2.2.1 105, .object "NinetyNights$Scene")]
def zbyt : List (List Int32) := [[111, 110, 101, 32, 32, 32, 32, 32, 109, 97, 114, 107, 101, 100, 32, 32, 109, 105, 114, 114, 111, 114, 32, 32, 115, 116, 97, 121, 115, 32, 32, 32, 98, 108, 105, 110, 100, 32, 32, 32, 108, 97, 119, 32, 32, 32, 32, 32, 104, 97, 115, 32, 32, 32, 32, 32, 111, 119, 110, 32, 32, 32, 32, 32, 115, 97, 121, 105, 110, 103, 32, 32, 111, 114, 32, 32, 32, 32, 32, 32, 97, 110, 100, 32, 32, 32, 32, 32, 110, 111, 116, 32, 32, 32, 32, 32, 109, 97, 114, 107, 115, 32, 32, 32, 103, 111, 110, 101, 32, 32, 32, 32, 107, 110, 111, 119, 115, 32, 32, 32, 97, 108, 108, 32, 32, 32, 32, 32, 99, 111, 109, 109, 111, 110, 32, 32], [59, 40, 41, 60, 62, 61, 43, 45, 42, 47]]
def zStr (G : zG) (U : State) : Prop := vk_S 2 [136, 10] zbyt G.2.2.2.1 G.2.2.2.2 (zA G) U U.heap ∧ vk_R "NinetyNights$Tokens" 40 "one     marked  mirror  stays   blind   law     has     own     saying  or      and     not     marks   gone    knows   all     common  " (G.2.2.2.1 0) U ∧ vk_R "NinetyNights$Tokens" 76 ";()<>=+-*/" (G.2.2.2.1 1) U ∧ va_Z "java/lang/String" "COMPACT_STRINGS" "Z" (.int 1) (zA G) U U.heap ∧ va_Zq "jdk/internal/util/Preconditions" "SIOOBE_FORMATTER" "Ljava/util/function/BiFunction;" (zA G) U U.heap
def zAOA (U : State) : Prop := (Cond.arrayOver (.array .int)).before #[] U = true
def zK (G : zG) (U : State) : Prop := va_K G.2.1 vwCl (ztys G) U ∧ (∀ w ∈ zNs, va_Nw w U) ∧ zStr G U ∧ va_AO "NinetyNights$Scene" U ∧ zAOA U
def zPc (G : zG) (av : List Value) (I : zI) (L : zL) (P : zP) (nx : Nat) : Array Value → State → Prop := fun v U => v = (av.map (ztr G)).toArray ∧ zRel G I L P nx U.heap ∧ zK G U ∧ G.1 ≤ U.heap.size
def zQc (G : zG) (Q : zQt) : Array Value → State → Outcome → State → Prop := fun _ st oc t => (∃ (v : Option Value) (I : zI) (L : zL) (P : zP) (nx : Nat), oc = .returned (v.map (ztr G)) ∧ Q v I L P nx ∧ zRel G I L P nx t.heap) ∧ va_F (zA G) st t
def zRm (d mc ms : Nat) : Room := { frames := d, cells := mc, slots := ms, locals := 64 * d }
/-- a method, called so at these cells: it ends, and Q holds of its answer and of the cells then -/
def zM (y : zY) (d mc ms : Nat) (av : List Value) (I : zI) (L : zL) (P : zP) (nx : Nat) (Q : zQt) : Prop :=
  ∀ (l : Launch) (G : zG), Met l y.1 (Cond.code y.1 y.2.1 y.2.2.1 y.2.2.2 :: zTb) (zRm d mc ms) (zPc G av I L P nx) (zQc G Q) mc ms (zA G)
def zCx (G : zG) (y : zY) (p : Program) (s : State) (m : MethodId) (args : Array Value) (meth : Method) (c : Code) : Prop :=
  p.tables.exec = Jvm.exec ∧ c.code = y.2.1 ∧ meth.sig.returnType = y.2.2.2 ∧ c.maxLocals = y.2.2.1 ∧ s.vm.findClass y.1.cls = some m.cls ∧ (∀ w ∈ zTb, w.before args s = true) ∧ meth.locks = false ∧ meth.name = y.1.name ∧ zK G s ∧ G.1 ≤ s.heap.size
def zlv (G : zG) (ls : Array Slot) (n : Nat) (lv : zV) : Prop := ls.size = n ∧ lv_wf ls ∧ ∀ (k : Nat) (v : Value), lv[k]? = some (some v) → ls[k]? = some (.val (ztr G v))
def zW (y : zY) (R : Room) (mc ms : Nat) (Q : zQt) (pc : Nat) (lv : zV) (st : List Value) (I : zI) (L : zL) (P : zP) (nx cs sl : Nat) : Prop :=
  ∀ (G : zG) (p : Program) (l : Launch) (e : Env) (s : State) (m : MethodId) (args : Array Value) (below : List Frame) (meth : Method) (c : Code) (H : Heap) (locs : List Loc) (ls : Array Slot),
    zCx G y p s m args meth c → zRel G I L P nx H → va_S (zA G) s.heap H locs → zlv G ls y.2.2.1 lv →
    W p l e R s m args below meth c H locs cs sl (MQ below (zQc G Q) args s mc ms (zA G)) (F0 m pc ls (st.map (ztr G)))
theorem zA_all {G : zG} {s : State} (h : G.1 ≤ s.heap.size) : ∀ q, s.heap.size ≤ q → zA G q := fun _ hq => Nat.le_trans h hq
theorem zStr_moved {G : zG} {s U : State} {H : Heap} {locs : List Loc} (hW : s.WarmedH U.vm) (hS : va_S (zA G) s.heap H locs) (hU : U.heap = H) (h : zStr G s) : zStr G U := by
  obtain ⟨h1, h2, h3, h4, h5⟩ := h
  refine ⟨?_, h2.warm hW, h3.warm hW, ?_, ?_⟩
  · have := (h1.kept (H1 := H) hS.2.1).moved hW.alike
    rw [← hU] at this
    exact this
  · have := (h4.kept (H1 := H) hS.2.1).moved hW.alike
    rw [← hU] at this
    exact this
  · have := (h5.kept (H1 := H) hS.2.1).moved hW.alike
    rw [← hU] at this
    exact this
theorem zNs_warm {s U : State} (hW : s.WarmedH U.vm) (h : ∀ w ∈ zNs, va_Nw w s) : ∀ w ∈ zNs, va_Nw w U := by
  intro w hw
  have h1 := h w hw
  have h2 := (List.mem_filter.mp hw).2
  cases w <;> first | exact va_Nw.warmF hW h1 | exact va_Nw.warmM hW h1 | exact absurd h2 (by simp [zIsN])
theorem zAOA_moved {u U : State} (hvm : u.vm.Alike U.vm) (h : zAOA u) : zAOA U := over_moved hvm h
theorem zK_moved {G : zG} {s U : State} {H : Heap} {locs : List Loc} (hW : s.WarmedH U.vm) (hS : va_S (zA G) s.heap H locs) (hU : U.heap = H) (h : zK G s) : zK G U :=
  ⟨va_K.moved hW.alike h.1, zNs_warm hW h.2.1, zStr_moved hW hS hU h.2.2.1, va_AO.moved hW.alike h.2.2.2.1, zAOA_moved hW.alike h.2.2.2.2⟩
theorem vk_S_same {N : Nat} {len : List Nat} {byt : List (List Int32)} {adK adV : Nat → Nat} {A : Nat → Prop} {u U : State} (hv : U.vm = u.vm) (hh : U.heap = u.heap) (h : vk_S N len byt adK adV A u u.heap) : vk_S N len byt adK adV A U U.heap := by
  rw [hh]
  exact h.moved (by rw [hv]; exact Vm.Alike.refl _)
theorem zK_calling {G : zG} {U : State} (g : JFrame) (mk : MethodId) (a : Array Value) (h : zK G U) : zK G (U.calling g mk a) := by
  have hv : (U.calling g mk a).vm = U.vm := rfl
  have hh : (U.calling g mk a).heap = U.heap := rfl
  obtain ⟨h1, h2, ⟨s1, s2, s3, s4, s5⟩, h4, h5⟩ := h
  refine ⟨va_K.moved (Vm.Alike.refl U.vm) h1, fun w hw => ?_, ⟨vk_S_same hv hh s1, s2.same hv, s3.same hv, ?_, ?_⟩, va_AO.moved (Vm.Alike.refl U.vm) h4, zAOA_moved (Vm.Alike.refl U.vm) h5⟩
  · have h3 := (List.mem_filter.mp hw).2
    have h4 := h2 w hw
    cases w <;> first | exact va_Nw.same rfl hv.symm h4 | exact absurd h3 (by simp [zIsN])
  · rw [hh]
    exact s4.moved (by rw [hv]; exact Vm.Alike.refl _)
  · rw [hh]
    exact s5.moved (by rw [hv]; exact Vm.Alike.refl _)
theorem zPc_blind {G : zG} {av : List Value} {I : zI} {L : zL} {P : zP} {nx : Nat} : FrameBlind (zPc G av I L P nx) := fun a U g mk h => ⟨h.1, h.2.1, zK_calling g mk a h.2.2.1, h.2.2.2⟩
theorem zlv_entry {G : zG} {av : List Value} {n : Nat} (lv : zV) (hn : (lg_sl (av.map (ztr G))).length ≤ n) (h : ∀ (k : Nat) (v : Value), lv[k]? = some (some v) → (k, ztr G v) ∈ lv_args 0 (av.map (ztr G))) :
    zlv G ((lg_sl (av.map (ztr G)) ++ List.replicate (n - (lg_sl (av.map (ztr G))).length) Slot.unset).toArray) n lv := by
  obtain ⟨h1, h2, h3⟩ := lv_entry (av.map (ztr G)) hn
  exact ⟨h1, h2, fun k v hk => h3 (k, ztr G v) (h k v hk)⟩
/-- the places of the arguments -/
def zargs : List Value → zV
  | [] => []
  | v :: t => if v.category = 2 then some v :: none :: zargs t else some v :: zargs t
theorem ztr_cat (G : zG) (v : Value) : (ztr G v).category = v.category := by cases v <;> rfl
theorem zargs_in (G : zG) : ∀ (av : List Value) (i k : Nat) (v : Value), (zargs av)[k]? = some (some v) → (i + k, ztr G v) ∈ lv_args i (av.map (ztr G))
  | [], i, k, v, h => by simp [zargs] at h
  | w :: t, i, k, v, h => by
    unfold zargs at h
    by_cases hc : w.category = 2
    · rw [if_pos hc] at h
      match k, h with
      | 0, h =>
        simp at h
        subst h
        simp [lv_args]
      | 1, h => simp at h
      | k + 2, h =>
        simp at h
        have := zargs_in G t (i + 2) k v h
        simp only [List.map_cons, lv_args, ztr_cat, hc]
        have e : i + (k + 2) = i + 2 + k := by omega
        rw [e]
        exact List.mem_cons_of_mem _ (by simpa using this)
    · rw [if_neg hc] at h
      match k, h with
      | 0, h =>
        simp at h
        subst h
        simp [lv_args]
      | k + 1, h =>
        simp at h
        have h1 : w.category = 1 := by rcases lv_cat w with q | q; exact q; exact absurd q hc
        have := zargs_in G t (i + 1) k v h
        simp only [List.map_cons, lv_args, ztr_cat, h1]
        have e : i + (k + 1) = i + 1 + k := by omega
        rw [e]
        exact List.mem_cons_of_mem _ (by simpa using this)
def zasz : List Value → Nat
  | [] => 0
  | v :: t => v.category + zasz t
theorem zasz_eq (G : zG) : ∀ av : List Value, (lg_sl (av.map (ztr G))).length = zasz av
  | [] => rfl
  | v :: t => by
    have := zasz_eq G t
    simp only [List.map_cons, zasz]
    rw [← this]
    rcases lv_cat v with h | h <;> simp [lg_sl, ztr_cat, h] <;> omega
