/-! ===== the law's own machine ===== -/
/-! THE CLAIM OUT OF ONE WALK OF THE LAW'S BODY. Your part is whole_start (and what it stands on); all else here is the same for every law, but numbers. -/
def R_law : String := "NinetyNightsLaw"
def lw_P (b : Addr) (xs : List Int32) (args : Array Value) (s : State) : Prop := args = #[.ref b] ∧ s.IntsAt b xs ∧ xs.length ≤ 3072 ∧ (Jvm.Cond.and given_1 narrow_1).before args s = true
def lw_Q (_ : Array Value) (s : State) (o : Outcome) (t : State) : Prop := o = .returned (some (.int 1)) ∧ Framed s o t [] 600000 7302250
def lw_Z (below : List Frame) (a : Array Value) (s : State) : State → Prop := fun t => ∃ o, t.status = .running ∧ Ended t below o ∧ lw_Q a s o t
/-- the law's own end, with 1 on the stack, nothing written that was there before, its room as the claim has it -/
theorem lw_ret {p : Program} {l : Launch} {e : Env} {s : State} {m : MethodId} {below : List Frame} {meth : Method} {c : Code} {b : Nat} (hx : p.tables.exec = Jvm.exec) (hb : c.code = code) (hr : meth.sig.returnType = ret) (hlocks : meth.locks = false) {pc : Nat} {H : Heap} {ls : Array Slot} (hdg : decode code pc = .ok (.ireturn, 1)) : W p l e room_1 s m #[Value.ref b] below meth c H [] 600000 7302250 (lw_Z below #[Value.ref b] s) (F0 m pc ls [.int 1]) := by
  intro T hT X
  obtain ⟨fs, hret, hrun, hended, hW, hframe⟩ := X.leave (v := some (.int 1)) (hlocks := hlocks) (fun h => by rw [hr] at h; cases h)
  have hmeth' : T.vm.method? m = some meth := X.method'
  refine ⟨T.setFrames fs, ?_, .returned (some (.int 1)), hrun, hended, rfl, ⟨_, rfl⟩, hW, hframe⟩
  jvm_step X.here [X.here.top, hx, hb, hdg, hmeth', hr, ret, narrow_b1]
  (try refine ⟨rfl, ?_⟩); (try refine ⟨rfl, ?_⟩)
  first | (intro acts; rw [hret _ acts rfl rfl rfl]) | rw [hret _ _ rfl rfl rfl]
  exact Steps.refl _
/-- what holds at the law's entry: the machine, the code, the tables' words (any of lw_tbl by 'hts w (by decide +kernel)'), the script of L ints xs at the cell b, what the Statement gives of the start (any of its parts by flat_of_before) -/
def lw_At (p : Program) (s : State) (m : MethodId) (meth : Method) (c : Code) (b L : Nat) (xs : Nat → Int32) : Prop :=
  p.tables.exec = Jvm.exec ∧ c.code = code ∧ meth.sig.returnType = ret ∧ c.maxLocals = 4 ∧ s.vm.findClass R_law = some m.cls ∧ (∀ w ∈ lw_tbl, w.before #[Value.ref b] s = true) ∧ va_X b L xs s s.heap ∧ b < s.heap.size ∧ meth.locks = false ∧ (Jvm.Cond.and given_1 narrow_1).before #[Value.ref b] s = true
def lwX (bb n : Nat) (xs : Nat → Int32) (G : zG) (p : Program) (s : State) (m : MethodId) (meth : Method) (c : Code) : Prop := lw_At p s m meth c bb n xs ∧ zK G s ∧ G.1 = s.heap.size ∧ G.2.2.2.1 2 = bb
/-- the law's walk from a place on -/
def zT (bb n : Nat) (xs : Nat → Int32) (pc : Nat) (lv : zV) (st : List Value) (I : zI) (L : zL) (P : zP) (nx cs sl : Nat) : Prop :=
  ∀ (G : zG) (p : Program) (l : Launch) (e : Env) (s : State) (m : MethodId) (below : List Frame) (meth : Method) (c : Code) (H : Heap) (locs : List Loc) (ls : Array Slot),
    lwX bb n xs G p s m meth c → zRel G I L P nx H → va_S (zA G) s.heap H locs → zlv G ls 4 lv →
    W p l e room_1 s m #[Value.ref bb] below meth c H locs cs sl (lw_Z below #[Value.ref bb] s) (F0 m pc ls (st.map (ztr G)))
theorem lwX_ts {bb n : Nat} {xs : Nat → Int32} {G : zG} {p : Program} {s : State} {m : MethodId} {meth : Method} {c : Code} (C : lwX bb n xs G p s m meth c) : ∀ w ∈ zTb, w.before #[Value.ref bb] s = true := fun w hw => C.1.2.2.2.2.2.1 w (List.mem_filter.mp hw).1
theorem lwX_b {bb n : Nat} {xs : Nat → Int32} {G : zG} {p : Program} {s : State} {m : MethodId} {meth : Method} {c : Code} (C : lwX bb n xs G p s m meth c) : zad G 1000002 = bb := C.2.2.2
theorem lwX_A {bb n : Nat} {xs : Nat → Int32} {G : zG} {p : Program} {s : State} {m : MethodId} {meth : Method} {c : Code} (C : lwX bb n xs G p s m meth c) : bb < s.heap.size ∧ ¬ zA G bb := ⟨C.1.2.2.2.2.2.2.2.1, by
  have h1 := C.1.2.2.2.2.2.2.2.1
  have h2 := C.2.2.1
  intro h
  have h : G.1 ≤ bb := h
  omega⟩
section ZT
variable {bb n : Nat} {xs : Nat → Int32} {pc : Nat} {lv : zV} {st : List Value} {I : zI} {L : zL} {P : zP} {nx cs sl : Nat}
theorem tz_iconst {k : Int} {v : Int32} (h : decode code pc = .ok (.iconst k, 1)) (hv : Int32.ofInt k = v) (kk : zT bb n xs (pc + 1) lv (.int v :: st) I L P nx cs sl) : zT bb n xs pc lv st I L P nx cs sl := fun G p l e s m below meth c H locs ls C hR hS hl => lv_iconst C.1.1 C.1.2.1 h hv (kk G p l e s m below meth c H locs ls C hR hS hl)
theorem tz_bipush {k : Int} {v : Int32} (h : decode code pc = .ok (.bipush k, 2)) (hv : (Int8.ofInt k).toInt32 = v) (kk : zT bb n xs (pc + 2) lv (.int v :: st) I L P nx cs sl) : zT bb n xs pc lv st I L P nx cs sl := fun G p l e s m below meth c H locs ls C hR hS hl => lv_bipush C.1.1 C.1.2.1 h hv (kk G p l e s m below meth c H locs ls C hR hS hl)
theorem tz_aload {k : Fin 4} {v : Nat} (h : decode code pc = .ok (.aload_n k, 1)) (hv : lv[(k : Nat)]? = some (some (.ref v))) (kk : zT bb n xs (pc + 1) lv (.ref v :: st) I L P nx cs sl) : zT bb n xs pc lv st I L P nx cs sl := fun G p l e s m below meth c H locs ls C hR hS hl => lv_aload_n C.1.1 C.1.2.1 h rfl (hl.2.2 _ _ hv) (kk G p l e s m below meth c H locs ls C hR hS hl)
theorem tz_iload {k : Fin 4} {v : Int32} (h : decode code pc = .ok (.iload_n k, 1)) (hv : lv[(k : Nat)]? = some (some (.int v))) (kk : zT bb n xs (pc + 1) lv (.int v :: st) I L P nx cs sl) : zT bb n xs pc lv st I L P nx cs sl := fun G p l e s m below meth c H locs ls C hR hS hl => lv_iload_n C.1.1 C.1.2.1 h rfl (hl.2.2 _ _ hv) (kk G p l e s m below meth c H locs ls C hR hS hl)
theorem tz_iadd {a b : Int32} (h : decode code pc = .ok (.iadd, 1)) (kk : zT bb n xs (pc + 1) lv (.int (a + b) :: st) I L P nx cs sl) : zT bb n xs pc lv (.int b :: .int a :: st) I L P nx cs sl := fun G p l e s m below meth c H locs ls C hR hS hl => lv_iadd C.1.1 C.1.2.1 h (kk G p l e s m below meth c H locs ls C hR hS hl)
theorem tz_isub {a b : Int32} (h : decode code pc = .ok (.isub, 1)) (kk : zT bb n xs (pc + 1) lv (.int (a - b) :: st) I L P nx cs sl) : zT bb n xs pc lv (.int b :: .int a :: st) I L P nx cs sl := fun G p l e s m below meth c H locs ls C hR hS hl => lv_isub C.1.1 C.1.2.1 h (kk G p l e s m below meth c H locs ls C hR hS hl)
theorem tz_iand {a b : Int32} (h : decode code pc = .ok (.iand, 1)) (kk : zT bb n xs (pc + 1) lv (.int (a &&& b) :: st) I L P nx cs sl) : zT bb n xs pc lv (.int b :: .int a :: st) I L P nx cs sl := fun G p l e s m below meth c H locs ls C hR hS hl => lv_iand C.1.1 C.1.2.1 h (kk G p l e s m below meth c H locs ls C hR hS hl)
theorem tz_dup {v : Value} (h : decode code pc = .ok (.dup, 1)) (hv : v.category = 1) (kk : zT bb n xs (pc + 1) lv (v :: v :: st) I L P nx cs sl) : zT bb n xs pc lv (v :: st) I L P nx cs sl := fun G p l e s m below meth c H locs ls C hR hS hl => lv_dup C.1.1 C.1.2.1 h ((ztr_cat _ _).trans hv) (kk G p l e s m below meth c H locs ls C hR hS hl)
theorem tz_goto {off : Int} {tgt : Nat} (h : decode code pc = .ok (.goto off, 3)) (ht : (pc : Int) + off = (tgt : Int)) (kk : zT bb n xs tgt lv st I L P nx cs sl) : zT bb n xs pc lv st I L P nx cs sl := fun G p l e s m below meth c H locs ls C hR hS hl => lv_goto C.1.1 C.1.2.1 h ht (kk G p l e s m below meth c H locs ls C hR hS hl)
theorem tz_icmp_gt {a b : Int32} {off : Int} {tgt : Nat} (h : decode code pc = .ok (.if_icmp .gt off, 3)) (ht : (pc : Int) + off = (tgt : Int)) (kt : b < a → zT bb n xs tgt lv st I L P nx cs sl) (kf : ¬ b < a → zT bb n xs (pc + 3) lv st I L P nx cs sl) : zT bb n xs pc lv (.int b :: .int a :: st) I L P nx cs sl := fun G p l e s m below meth c H locs ls C hR hS hl => lv_icmp_gt C.1.1 C.1.2.1 h ht (fun q => kt q G p l e s m below meth c H locs ls C hR hS hl) (fun q => kf q G p l e s m below meth c H locs ls C hR hS hl)
theorem tz_icmp_eq {a b : Int32} {off : Int} {tgt : Nat} (h : decode code pc = .ok (.if_icmp .eq off, 3)) (ht : (pc : Int) + off = (tgt : Int)) (kt : a = b → zT bb n xs tgt lv st I L P nx cs sl) (kf : ¬ a = b → zT bb n xs (pc + 3) lv st I L P nx cs sl) : zT bb n xs pc lv (.int b :: .int a :: st) I L P nx cs sl := fun G p l e s m below meth c H locs ls C hR hS hl => lv_icmp_eq C.1.1 C.1.2.1 h ht (fun q => kt q G p l e s m below meth c H locs ls C hR hS hl) (fun q => kf q G p l e s m below meth c H locs ls C hR hS hl)
theorem tz_if_eq {a : Int32} {off : Int} {tgt : Nat} (h : decode code pc = .ok (.ifCond .eq off, 3)) (ht : (pc : Int) + off = (tgt : Int)) (kt : a = 0 → zT bb n xs tgt lv st I L P nx cs sl) (kf : ¬ a = 0 → zT bb n xs (pc + 3) lv st I L P nx cs sl) : zT bb n xs pc lv (.int a :: st) I L P nx cs sl := fun G p l e s m below meth c H locs ls C hR hS hl => lv_if_eq C.1.1 C.1.2.1 h ht (fun q => kt q G p l e s m below meth c H locs ls C hR hS hl) (fun q => kf q G p l e s m below meth c H locs ls C hR hS hl)
theorem tz_tableOut {dflt lo hi : Int} {offs : Array Int} {len : Nat} {a : Int32} {tgt : Nat} (h : decode code pc = .ok (.tableswitch dflt lo hi offs, len)) (hq : a.toInt < lo ∨ hi < a.toInt) (ht : (pc : Int) + dflt = (tgt : Int)) (kk : zT bb n xs tgt lv st I L P nx cs sl) : zT bb n xs pc lv (.int a :: st) I L P nx cs sl := fun G p l e s m below meth c H locs ls C hR hS hl => lv_tableOut C.1.1 C.1.2.1 h hq ht (kk G p l e s m below meth c H locs ls C hR hS hl)
theorem tz_tableIn {dflt lo hi : Int} {offs : Array Int} {len : Nat} {a : Int32} {off : Int} {tgt : Nat} (h : decode code pc = .ok (.tableswitch dflt lo hi offs, len)) (h1 : ¬ a.toInt < lo) (h2 : ¬ hi < a.toInt) (ho : offs[(a.toInt - lo).toNat]? = some off) (ht : (pc : Int) + off = (tgt : Int)) (kk : zT bb n xs tgt lv st I L P nx cs sl) : zT bb n xs pc lv (.int a :: st) I L P nx cs sl := fun G p l e s m below meth c H locs ls C hR hS hl => lv_tableIn C.1.1 C.1.2.1 h h1 h2 ho ht (kk G p l e s m below meth c H locs ls C hR hS hl)
theorem tz_istore {k : Fin 4} {v : Int32} {lv2 : zV} (h : decode code pc = .ok (.istore_n k, 1)) (hz : zok lv k = true) (he : lv.set k (some (.int v)) = lv2) (kk : zT bb n xs (pc + 1) lv2 st I L P nx cs sl) : zT bb n xs pc lv (.int v :: st) I L P nx cs sl := fun G p l e s m below meth c H locs ls C hR hS hl => lv_istore_n C.1.1 C.1.2.1 h rfl (zlv_has hl) k.isLt rfl (fun ls2 hl2 => kk G p l e s m below meth c H locs ls2 C hR hS (by rw [← he]; exact zlv_st1 hz hl2))
theorem tz_astore {k : Fin 4} {v : Nat} {lv2 : zV} (h : decode code pc = .ok (.astore_n k, 1)) (hz : zok lv k = true) (he : lv.set k (some (.ref v)) = lv2) (kk : zT bb n xs (pc + 1) lv2 st I L P nx cs sl) : zT bb n xs pc lv (.ref v :: st) I L P nx cs sl := fun G p l e s m below meth c H locs ls C hR hS hl => lv_astore_n C.1.1 C.1.2.1 h rfl (zlv_has hl) k.isLt rfl (fun ls2 hl2 => kk G p l e s m below meth c H locs ls2 C hR hS (by rw [← he]; exact zlv_st1 (v := .ref v) hz hl2))
theorem tz_iinc {k : Nat} {j : Int} {v v2 : Int32} {lv2 : zV} (h : decode code pc = .ok (.iinc k j, 3)) (hg : lv[k]? = some (some (.int v))) (hv : v + Int32.ofInt j = v2) (hn : k < 4) (hz : zok lv k = true) (he : lv.set k (some (.int v2)) = lv2) (kk : zT bb n xs (pc + 3) lv2 st I L P nx cs sl) : zT bb n xs pc lv st I L P nx cs sl := by
  intro G p l e s m below meth c H locs ls C hR hS hl
  have hm : (k, Value.int v) ∈ zprs G 0 lv := by
    have := zprs_of G lv 0 k (.int v) hg
    rwa [Nat.zero_add] at this
  obtain ⟨i, hi⟩ := List.getElem?_of_mem hm
  exact lv_iinc (k := i) C.1.1 C.1.2.1 h (zlv_has hl) hi hv hn rfl (fun ls2 hl2 => kk G p l e s m below meth c H locs ls2 C hR hS (by rw [← he]; exact zlv_st1 hz hl2))
theorem tz_alen (h : decode code pc = .ok (.arraylength, 1)) (kk : zT bb n xs (pc + 1) lv (.int (Int32.ofNat n) :: st) I L P nx cs sl) : zT bb n xs pc lv (.ref 1000002 :: st) I L P nx cs sl := by
  intro G p l e s m below meth c H locs ls C hR hS hl
  show W p l e room_1 s m _ below meth c H locs cs sl _ (F0 m pc ls (.ref (zad G 1000002) :: st.map (ztr G)))
  rw [lwX_b C]
  exact va_slen C.1.1 C.1.2.1 C.1.2.2.2.2.2.2.1 (lwX_A C).1 (lwX_A C).2 hS h (kk G p l e s m below meth c H locs ls C hR hS hl)
theorem tz_iald {i v : Int32} (h : decode code pc = .ok (.iaload, 1)) (hi : vp_in i n) (hv : xs i.toNatClampNeg = v) (kk : zT bb n xs (pc + 1) lv (.int v :: st) I L P nx cs sl) : zT bb n xs pc lv (.int i :: .ref 1000002 :: st) I L P nx cs sl := by
  intro G p l e s m below meth c H locs ls C hR hS hl
  show W p l e room_1 s m _ below meth c H locs cs sl _ (F0 m pc ls (.int i :: .ref (zad G 1000002) :: st.map (ztr G)))
  rw [lwX_b C]
  refine va_sld C.1.1 C.1.2.1 C.1.2.2.2.2.2.2.1 (lwX_A C).1 (lwX_A C).2 hS hi h ?_
  rw [hv]
  exact kk G p l e s m below meth c H locs ls C hR hS hl
theorem tz_ret (h : decode code pc = .ok (.ireturn, 1)) (hc : cs ≤ 600000) (hs : sl ≤ 7302250) : zT bb n xs pc lv [.int 1] I L P nx cs sl := by
  intro G p l e s m below meth c H locs ls C hR hS hl
  refine va_forget (fun q hq => by rw [← C.2.2.1]; exact hS.2.2 q hq) ?_
  refine W.widen hc hs ?_
  exact lw_ret C.1.1 C.1.2.1 C.1.2.2.1 C.1.2.2.2.2.2.2.2.2.1 h
theorem tz_new {c idx : Nat} (h : decode code pc = .ok (.new idx, 3)) (hc : c < 12) (hw : Cond.classLink RL idx (zRR c) ∈ zTb ∧ Cond.instantiable (zRR c) (znf c) ∈ zTb ∧ Cond.initialized (zRR c) ∈ zTb) (hn : nx < 205) (hs : (zsh nx).1 = c) (hF : zFz nx I L P) (hcs : cs + 1 ≤ room_1.cells) (hsl : sl + znf c ≤ room_1.slots)
    (kk : zT bb n xs (pc + 3) lv (.ref nx :: st) I L P (nx + 1) (cs + 1) (sl + znf c)) : zT bb n xs pc lv st I L P nx cs sl := by
  intro G p l e s m below meth c0 H locs ls C hR hS hl
  have hts := lwX_ts C
  have hK := C.2.1.1
  have hKn := hK.1 c _ (zcl hc)
  have hz : H.size = G.1 + nx := hR.1 hn
  refine W.newcK C.1.1 C.1.2.1 C.1.2.2.2.2.1 (hts _ hw.1) (hts _ hw.2.1) (hts _ hw.2.2) rfl h hcs hsl hKn.2.1 rfl fun H1 kC hkC e1 z1 o1 => ?_
  have hk := kk G p l e s m below meth c0 H1 locs ls C (zRel_push hR hn z1 o1 ?_) (zS_push hS (by omega) o1) hl
  · have ez : zad G nx = H.size := by rw [zad_own (by omega), hz]
    have hk : W p l e room_1 s m _ below meth c0 H1 locs (cs + 1) (sl + znf c) _ (F0 m (pc + 3) ls (.ref (zad G nx) :: st.map (ztr G))) := hk
    rw [ez] at hk
    exact hk
  · rw [zE_obj hs hc, ← hz]
    refine ⟨_, zcl hc, (u_born (zty c) hts (zin c hc) hKn hkC e1 (ztyok c hc)).to (fun j hj => ?_)⟩
    show defaultValue (zty c j) = (zfl G I L P nx c).getD j .null
    rw [List.getD_eq_getElem?_getD, zfl_at hj]
    exact zdef1 hF (ztok_all c hc j hj)
theorem tz_after {mc2 ms2 : Nat} {As : Array Value} {G : zG} {p : Program} {l : Launch} {e : Env} {s : State} {m : MethodId} {below : List Frame} {meth : Method} {c : Code} {H : Heap} {locs : List Loc} {ls : Array Slot} {st0 : List Value} (C : lwX bb n xs G p s m meth c) (hS : va_S (zA G) s.heap H locs) (hl : zlv G ls 4 lv)
    {Q2 : zQt} (hQ : ∀ v I' L' P' nx', Q2 v I' L' P' nx' → zT bb n xs (pc + 3) lv (v.toList ++ st) I' L' P' nx' (cs + mc2) (sl + ms2)) (run : va_Run p l e room_1 s m #[Value.ref bb] below meth c H locs cs sl mc2 ms2 (F0 m pc ls st0) (st.map (ztr G)) (zQc G Q2 As) (zA G)) :
    W p l e room_1 s m #[Value.ref bb] below meth c H locs cs sl (lw_Z below #[Value.ref bb] s) (F0 m pc ls st0) := by
  intro T hT X
  obtain ⟨v, s0, t, T', Lc, h0, X', hL, e1, e2, ⟨⟨v', I', L', P', nx', hv, hq, hR'⟩, hz, hk⟩, stp⟩ := run T hT X
  have hv2 : v = v'.map (ztr G) := by injection hv
  subst hv2
  rw [h0] at hz hk
  have hlist : (v'.toList ++ st).map (ztr G) = (v'.map (ztr G)).toList ++ st.map (ztr G) := by cases v' <;> simp
  have hq2 := hQ _ _ _ _ _ hq G p l e s m below meth c T'.heap (locs ++ Lc) ls C (by rw [e1]; exact hR')
    ⟨Nat.le_trans hS.1 (by rw [e1]; exact hz), fun q h1 h2 => by rw [e1, hk q (Nat.lt_of_lt_of_le h1 hS.1) h2]; exact hS.2.1 q h1 h2, fun q hq => by
      rcases List.mem_append.mp hq with h | h
      · exact hS.2.2 q h
      · exact hL q h⟩ hl
  rw [hlist] at hq2
  obtain ⟨t2, a1, b1⟩ := hq2 T' rfl X'
  exact ⟨t2, stp t2 a1, b1⟩
theorem tPre {G : zG} {av : List Value} {s : State} {H : Heap} {locs : List Loc} {m : MethodId} {meth : Method} {c : Code} {p : Program} (C : lwX bb n xs G p s m meth c) (hR : zRel G I L P nx H) (hS : va_S (zA G) s.heap H locs) : ∀ U : State, U.heap = H → s.WarmedH U.vm → zPc G av I L P nx (av.map (ztr G)).toArray U :=
  fun U hU hW => ⟨rfl, by rw [hU]; exact hR, zK_moved hW hS hU C.2.1, by rw [hU, C.2.2.1]; exact hS.1⟩
theorem tz_callV {y2 : zY} {idx nn d2 a c : Nat} {As st0 : List Value} (h : decode code pc = .ok (.invokevirtual idx, 3)) (hC : zC RL idx y2 nn) (hV : zCV y2) (hc : c < 12) (hcn : zRR c = y2.1.cls) (ha : a < nx) (hs : (zsh a).1 = c) (hn : As.length = nn) (hst : As.reverse ++ .ref a :: st = st0) (hrm : (st.map fun v => v.category).sum ≤ 8) (hd : d2 + 1 ≤ room_1.frames ∧ 64 * (d2 + 1) ≤ room_1.locals) (hcs : cs + 0 ≤ room_1.cells ∧ sl + 0 ≤ room_1.slots)
    {Q2 : zQt} (hM : zM y2 d2 0 0 (.ref a :: As) I L P nx Q2) (hQ : ∀ v I' L' P' nx', Q2 v I' L' P' nx' → zT bb n xs (pc + 3) lv (v.toList ++ st) I' L' P' nx' cs sl) : zT bb n xs pc lv st0 I L P nx cs sl := by
  intro G p l e s m below meth c0 H locs ls C hR hS hl
  subst hst
  have hts := lwX_ts C
  refine tz_after (st := st) (mc2 := 0) (ms2 := 0) (As := (Value.ref (zad G a) :: As.map (ztr G)).toArray) C hS hl hQ ?_
  refine va_runV (b := zad G a) (As := As.map (ztr G)) (rest := st.map (ztr G)) (Ts := zTb) (own := RL) (C := y2.1.cls) (bytes := y2.2.1) (maxL := y2.2.2.1) (ret := y2.2.2.2) (n := nn) (nL := 4) ⟨C.1.1, C.1.2.1, C.1.2.2.2.1, C.1.2.2.2.2.1, hts⟩ (hM l G)
    ⟨callB_of nn hts (ws' := zTb) (fun w hw => by rcases List.mem_cons.mp hw with q | q; rw [q]; exact zTb_good _ hC.2.1; exact zTb_good _ q) rfl rfl rfl (hts _ hC.2.2.1) (hts _ hC.1) hC.2.2.2.1 ⟨hd.1, by have := hC.2.2.2.2; have := hd.2; show 8 + (_ + 11) + 64 * d2 ≤ _; omega⟩, hts _ hV.1, hts _ hV.2⟩
    ⟨zPc_blind, ?_, tPre C hR hS⟩ rfl (by simpa using hn) hl.1 (by simp [ztr]) (lv_room (by rw [zcat_sum]; exact hrm)) h hcs
  rw [zad_own (by have := hR.2.1; omega), ← hcn]
  exact va_recv C.2.1.1 hR.2.2 (zcl hc) (by rw [zws_at ha, zE_obj hs hc])
theorem tz_callI {y2 : zY} {idx nn d2 mc2 ms2 a : Nat} {As st0 : List Value} (h : decode code pc = .ok (.invokespecial idx, 3)) (hC : zC RL idx y2 nn) (hr : y2.2.2.2 = none) (hi : y2.1.name = "<init>") (hV : Cond.instanceMethod y2.1 ∈ zTb) (hn : As.length = nn) (hst : As.reverse ++ .ref a :: st = st0) (hrm : (st.map fun v => v.category).sum ≤ 8) (hd : d2 + 1 ≤ room_1.frames ∧ 64 * (d2 + 1) ≤ room_1.locals) (hcs : cs + mc2 ≤ room_1.cells ∧ sl + ms2 ≤ room_1.slots)
    {Q2 : zQt} (hM : zM y2 d2 mc2 ms2 (.ref a :: As) I L P nx Q2) (hQ : ∀ v I' L' P' nx', Q2 v I' L' P' nx' → zT bb n xs (pc + 3) lv (v.toList ++ st) I' L' P' nx' (cs + mc2) (sl + ms2)) : zT bb n xs pc lv st0 I L P nx cs sl := by
  intro G p l e s m below meth c0 H locs ls C hR hS hl
  obtain ⟨y21, y22, y23, y24⟩ := y2
  simp only at hr
  subst hr
  subst hst
  have hts := lwX_ts C
  refine tz_after (st := st) (mc2 := mc2) (ms2 := ms2) (As := (Value.ref (zad G a) :: As.map (ztr G)).toArray) C hS hl hQ ?_
  exact va_runI (b := zad G a) (As := As.map (ztr G)) (rest := st.map (ztr G)) (Ts := zTb) (own := RL) (bytes := y22) (maxL := y23) (n := nn) (nL := 4) ⟨C.1.1, C.1.2.1, C.1.2.2.2.1, C.1.2.2.2.2.1, hts⟩ (hM l G)
    ⟨callB_of nn hts (ws' := zTb) (fun w hw => by rcases List.mem_cons.mp hw with q | q; rw [q]; exact zTb_good _ hC.2.1; exact zTb_good _ q) rfl rfl rfl (hts _ hC.2.2.1) (hts _ hC.1) hC.2.2.2.1 ⟨hd.1, by have h9 : y23 ≤ 45 := hC.2.2.2.2; have := hd.2; show 8 + (y23 + 11) + 64 * d2 ≤ _; omega⟩, hi, hts _ hV⟩
    ⟨zPc_blind, tPre C hR hS⟩ rfl (by simpa using hn) hl.1 (by simp [ztr]) (lv_room (by rw [zcat_sum]; exact hrm)) h hcs
end ZT
