/-! ===== z, 3: fields, arrays, answers, calls ===== -/
def zF (cls : String) (idx c k : Nat) : Prop := c < 12 ∧ k < znf c ∧ Cond.fieldLink cls idx (zTT c k).1 (zTT c k).2.1 (zTT c k).2.2.1 ∈ zTb
def zC (cls : String) (idx : Nat) (y : zY) (n : Nat) : Prop := Cond.methodLink cls idx y.1 ∈ zTb ∧ Cond.code y.1 y.2.1 y.2.2.1 y.2.2.2 ∈ zTb ∧ Cond.initialized y.1.cls ∈ zTb ∧ (y.1.cls ≠ "java/lang/invoke/MethodHandle" ∧ y.1.cls ≠ "java/lang/invoke/VarHandle" ∧ (parseMethodDescriptor y.1.desc).map (fun d => d.parameters.length) = some n) ∧ y.2.2.1 ≤ 45
def zCV (y : zY) : Prop := Cond.instanceMethod y.1 ∈ zTb ∧ Cond.selects y.1.cls y.1 y.1 ∈ zTb
theorem zRel_upd {G : zG} {I I' : zI} {L L' : zL} {P P' : zP} {nx a : Nat} {H H1 : Heap} (hR : zRel G I L P nx H) (ha : a < nx) (he : va_at G.2.1 vwCl (G.1 + a, zE G I' L' P' a) H1) (ho : ∀ b, b ≠ a → zE G I' L' P' b = zE G I L P b) (hz : H1.size = H.size) (oq : ∀ q, q ≠ G.1 + a → H1[q]? = H[q]?) : zRel G I' L' P' nx H1 := by
  refine ⟨fun h => by rw [hz]; exact hR.1 h, hR.2.1, ?_⟩
  have := hR.2.2.set (zws_D G I L P nx) (zws_at ha) he oq
  rw [zws_set rfl ho] at this
  exact this
theorem zin_A {G : zG} {a : Nat} : zA G (G.1 + a) := Nat.le_add_right _ _
theorem zuI_at (I : zI) (a k : Nat) (v : Int32) : zuI I a k v a = upd (I a) k v := if_pos rfl
theorem zuI_ne {I : zI} {a b k : Nat} {v : Int32} (h : b ≠ a) : zuI I a k v b = I b := if_neg h
theorem zuL_at (L : zL) (a k : Nat) (v : Int64) : zuL L a k v a = vp_updL (L a) k v := if_pos rfl
theorem zuL_ne {L : zL} {a b k : Nat} {v : Int64} (h : b ≠ a) : zuL L a k v b = L b := if_neg h
theorem zuP_at (P : zP) (a k : Nat) (v : Option Nat) : zuP P a k v a = va_up (P a) k v := if_pos rfl
theorem zuP_ne {P : zP} {a b k : Nat} {v : Option Nat} (h : b ≠ a) : zuP P a k v b = P b := if_neg h
theorem zaI_at (I : zI) (a : Nat) (f : Nat → Int32) : zaI I a f a = f := if_pos rfl
theorem zaI_ne {I : zI} {a b : Nat} {f : Nat → Int32} (h : b ≠ a) : zaI I a f b = I b := if_neg h
theorem zaL_at (L : zL) (a : Nat) (f : Nat → Int64) : zaL L a f a = f := if_pos rfl
theorem zaL_ne {L : zL} {a b : Nat} {f : Nat → Int64} (h : b ≠ a) : zaL L a f b = L b := if_neg h
theorem zaP_at (P : zP) (a : Nat) (f : Nat → Option Nat) : zaP P a f a = f := if_pos rfl
theorem zaP_ne {P : zP} {a b : Nat} {f : Nat → Option Nat} (h : b ≠ a) : zaP P a f b = P b := if_neg h
theorem zuI_za (I : zI) (a k : Nat) (v : Int32) : zuI I a k v = zaI I a (upd (I a) k v) := rfl
section ZH
variable {y : zY} {R : Room} {mc ms : Nat} {Q : zQt} {pc : Nat} {lv : zV} {st : List Value} {I : zI} {L : zL} {P : zP} {nx cs sl : Nat}
theorem z_get0 {a c k idx : Nat} {v : Value} (h : decode y.2.1 pc = .ok (.getfield idx, 3)) (hF : zF y.1.cls idx c k) (ha : a < nx) (hs : (zsh a).1 = c) (hv : ∀ G, zfv G I L P a k (zty c k) = ztr G v) (kk : zW y R mc ms Q (pc + 3) lv (v :: st) I L P nx cs sl) : zW y R mc ms Q pc lv (.ref a :: st) I L P nx cs sl := by
  intro G p l e s m args below meth c0 H locs ls C hR hS hl
  have hk := kk G p l e s m args below meth c0 H locs ls C hR hS hl
  have h0 : zad G a = G.1 + a := zad_own (by have := hR.2.1; omega)
  show W p l e R s m args below meth c0 H locs cs sl _ (F0 m pc ls (.ref (zad G a) :: st.map (ztr G)))
  rw [h0]
  refine va_get C.1 C.2.1 C.2.2.2.2.2.1 (zin c hF.1) C.2.2.2.2.1 C.2.2.2.2.2.2.2.2.1.1 hR.2.2 a (by rw [zws_at ha, zE_obj hs hF.1]) (zcl hF.1) k hF.2.1 (C.2.2.2.2.2.1 _ hF.2.2) (fun _ h => h) (zfl_at hF.2.1) h ?_
  rw [hv]
  exact hk
theorem z_getI {a c k idx : Nat} (h : decode y.2.1 pc = .ok (.getfield idx, 3)) (hF : zF y.1.cls idx c k) (ha : a < nx) (hs : (zsh a).1 = c) (hv : ∀ G I L P a, zfv G I L P a k (zty c k) = .int (I a k)) (kk : zW y R mc ms Q (pc + 3) lv (.int (I a k) :: st) I L P nx cs sl) : zW y R mc ms Q pc lv (.ref a :: st) I L P nx cs sl := z_get0 (v := .int (I a k)) h hF ha hs (fun G => hv G I L P a) kk
theorem z_getL {a c k idx : Nat} (h : decode y.2.1 pc = .ok (.getfield idx, 3)) (hF : zF y.1.cls idx c k) (ha : a < nx) (hs : (zsh a).1 = c) (hv : ∀ G I L P a, zfv G I L P a k (zty c k) = .long (L a k)) (kk : zW y R mc ms Q (pc + 3) lv (.long (L a k) :: st) I L P nx cs sl) : zW y R mc ms Q pc lv (.ref a :: st) I L P nx cs sl := z_get0 (v := .long (L a k)) h hF ha hs (fun G => hv G I L P a) kk
theorem z_getP {a c k idx b : Nat} (h : decode y.2.1 pc = .ok (.getfield idx, 3)) (hF : zF y.1.cls idx c k) (ha : a < nx) (hs : (zsh a).1 = c) (hv : ∀ G I L P a, zfv G I L P a k (zty c k) = zrf G (P a k)) (hb : P a k = some b) (kk : zW y R mc ms Q (pc + 3) lv (.ref b :: st) I L P nx cs sl) : zW y R mc ms Q pc lv (.ref a :: st) I L P nx cs sl := z_get0 h hF ha hs (fun G => by rw [hv, hb]; rfl) kk
theorem z_put0 {a c k idx : Nat} {v : Value} {I' : zI} {L' : zL} {P' : zP} (h : decode y.2.1 pc = .ok (.putfield idx, 3)) (hF : zF y.1.cls idx c k) (ha : a < nx) (hs : (zsh a).1 = c) (hfin : (zTT c k).2.2.2 = false ∨ ((zTT c k).2.2.2 = true ∧ y.1.name = "<init>" ∧ (zTT c k).1 = y.1.cls))
    (hn : ∀ G, narrow (zty c k) (ztr G v) = ztr G v) (hfit : ∀ G, fits (zty c k) (ztr G v) = true) (hv : ∀ G, ztr G v = zfv G I' L' P' a k (zty c k)) (hj : ∀ G j, j ≠ k → zfv G I' L' P' a j (zty c j) = zfv G I L P a j (zty c j)) (ho : ∀ b, b ≠ a → I' b = I b ∧ L' b = L b ∧ P' b = P b)
    (kk : zW y R mc ms Q (pc + 3) lv st I' L' P' nx cs sl) : zW y R mc ms Q pc lv (v :: .ref a :: st) I L P nx cs sl := by
  intro G p l e s m args below meth c0 H locs ls C hR hS hl
  have h0 : zad G a = G.1 + a := zad_own (by have := hR.2.1; omega)
  show W p l e R s m args below meth c0 H locs cs sl _ (F0 m pc ls (ztr G v :: .ref (zad G a) :: st.map (ztr G)))
  rw [h0]
  have hts := C.2.2.2.2.2.1
  have hin := zin c hF.1
  have hK := C.2.2.2.2.2.2.2.2.1.1
  have hc := zcl hF.1
  have hk := hF.2.1
  have hown := C.2.2.2.2.1
  have hlink := hts _ hF.2.2
  have he : (zws G I L P nx)[a]? = some (G.1 + a, .inr (c, zfl G I L P a c)) := by rw [zws_at ha, zE_obj hs hF.1]
  have hap := va_apart (own := y.1.cls) hts hin (zty c) (ztyok c hF.1) (znm c hF.1) hK hc
  obtain ⟨r, h1, cell, q1, q2, q3, q4⟩ := hR.2.2 a _ he
  have hr : r = (zRR c, zTT c, znf c) := Option.some.inj (h1.symm.trans hc)
  subst hr
  obtain ⟨hSl, hfc, kC, hkC, hkind⟩ := hK.1 c _ hc
  obtain ⟨cf, kf, fi, f, hi, hsl⟩ := hSl k hk
  have hst := (u_facts hfc hkC (u_lays hts hin hk) hi).1
  have hd := ztyok c hF.1 k hk
  have fin : ∀ H1 : Heap, H1[G.1 + a]? = some (cell.setSlot f.slot (ztr G v)) → H1.size = H.size → (∀ q, q ≠ G.1 + a → H1[q]? = H[q]?) →
      W p l e R s m args below meth c0 H1 (locs ++ [⟨G.1 + a, f.slot⟩]) cs sl (MQ below (zQc G Q) args s mc ms (zA G)) (F0 m (pc + 3) ls (st.map (ztr G))) := by
    intro H1 e1 e2 e3
    rw [hsl] at e1
    refine kk G p l e s m args below meth c0 H1 _ ls C (zRel_upd hR ha ?_ (fun b hb => zE_congr (ho b hb).1 (ho b hb).2.1 (ho b hb).2.2) e2 e3) (hS.put e2 e3 zin_A) hl
    rw [zE_obj hs hF.1, ← zfl_set (I := I) (L := L) (P := P) (hv G) (hj G)]
    exact ⟨_, hc, t_OB.to (V := updV (vp_V (zfl G I L P a c)) k (ztr G v)) ⟨_, e1, q2, q3, t_set q4 hap hk (ztr G v)⟩ (fun j _ => vp_updV_set (by rw [zfl_len]; exact hk) (ztr G v) j)⟩
  rcases hfin with hfin | ⟨hfin, hini, hdecl⟩
  · have hlay := hts _ (hin _ (u_in_lay hk))
    unfold u_lay at hlay
    rw [if_neg (by rw [hfin]; decide)] at hlay
    have h6 := u_store hfc hkC hkind hlay hi hd (hn G) (hfit G)
    exact W.putK C.1 C.2.1 (f := f) ⟨hown, hlink, ⟨_, _, _, hi⟩, hst⟩ (by rw [q2]; exact h6) q1 q3 (by rw [hsl]; exact k2_hasslot (q4 k hk)) rfl rfl h (fun H' e1 e2 e3 => fin H' e1 e2 e3)
  · have hlay := hts _ (hin _ (u_in_lay hk))
    unfold u_lay at hlay
    rw [if_pos hfin] at hlay
    have hcf : m.cls = cf := by
      obtain ⟨_, _, c', _, _, _, -, -, hf', -, -, -, hown2, -⟩ := Cond.laysFinal_spec hlay
      have e1 : c' = cf := by have := hi.symm.trans hf'; simp at this; exact this.1.symm
      rw [hdecl] at hown2
      rw [← e1]; exact Option.some.inj (hown.symm.trans hown2)
    have h6 := u_fits hfc hkC hkind (Or.inr hlay) hi hd (hn G) (hfit G)
    exact W.putFinK C.1 C.2.1 hown hlink hi hst hcf (C.2.2.2.2.2.2.2.1.trans hini) (by rw [q2]; exact h6) q1 q3 (by rw [hsl]; exact k2_hasslot (q4 k hk)) rfl rfl h (fun H' e1 e2 e3 => fin H' e1 e2 e3)
theorem zfv_I {G : zG} {I : zI} {L : zL} {P : zP} {a k j : Nat} {v : Int32} {ty : FieldType} (hj : j ≠ k) : zfv G (zuI I a k v) L P a j ty = zfv G I L P a j ty := by
  unfold zfv
  rw [zuI_at]
  simp [upd, hj]
theorem zfv_L {G : zG} {I : zI} {L : zL} {P : zP} {a k j : Nat} {v : Int64} {ty : FieldType} (hj : j ≠ k) : zfv G I (zuL L a k v) P a j ty = zfv G I L P a j ty := by
  unfold zfv
  rw [zuL_at]
  simp [vp_updL, hj]
theorem zfv_P {G : zG} {I : zI} {L : zL} {P : zP} {a k j : Nat} {v : Option Nat} {ty : FieldType} (hj : j ≠ k) : zfv G I L (zuP P a k v) a j ty = zfv G I L P a j ty := by
  unfold zfv
  rw [zuP_at]
  simp [va_up, hj]
theorem z_putI {a c k idx : Nat} {v : Int32} (h : decode y.2.1 pc = .ok (.putfield idx, 3)) (hF : zF y.1.cls idx c k) (ha : a < nx) (hs : (zsh a).1 = c) (hfin : (zTT c k).2.2.2 = false ∨ ((zTT c k).2.2.2 = true ∧ y.1.name = "<init>" ∧ (zTT c k).1 = y.1.cls)) (hv : ∀ G I L P a, zfv G I L P a k (zty c k) = .int (I a k)) (hn : narrow (zty c k) (.int v) = .int v) (hfit : fits (zty c k) (.int v) = true)
    (kk : zW y R mc ms Q (pc + 3) lv st (zuI I a k v) L P nx cs sl) : zW y R mc ms Q pc lv (.int v :: .ref a :: st) I L P nx cs sl :=
  z_put0 h hF ha hs hfin (fun _ => hn) (fun _ => hfit) (fun G => by rw [hv, zuI_at]; simp [upd, ztr]) (fun _ _ hj => zfv_I hj) (fun _ hb => ⟨zuI_ne hb, rfl, rfl⟩) kk
theorem z_putL {a c k idx : Nat} {v : Int64} (h : decode y.2.1 pc = .ok (.putfield idx, 3)) (hF : zF y.1.cls idx c k) (ha : a < nx) (hs : (zsh a).1 = c) (hfin : (zTT c k).2.2.2 = false ∨ ((zTT c k).2.2.2 = true ∧ y.1.name = "<init>" ∧ (zTT c k).1 = y.1.cls)) (hv : ∀ G I L P a, zfv G I L P a k (zty c k) = .long (L a k)) (hn : narrow (zty c k) (.long v) = .long v) (hfit : fits (zty c k) (.long v) = true)
    (kk : zW y R mc ms Q (pc + 3) lv st I (zuL L a k v) P nx cs sl) : zW y R mc ms Q pc lv (.long v :: .ref a :: st) I L P nx cs sl :=
  z_put0 h hF ha hs hfin (fun _ => hn) (fun _ => hfit) (fun G => by rw [hv, zuL_at]; simp [vp_updL, ztr]) (fun _ _ hj => zfv_L hj) (fun _ hb => ⟨rfl, zuL_ne hb, rfl⟩) kk
theorem z_putP {a c k idx b : Nat} (h : decode y.2.1 pc = .ok (.putfield idx, 3)) (hF : zF y.1.cls idx c k) (ha : a < nx) (hs : (zsh a).1 = c) (hfin : (zTT c k).2.2.2 = false ∨ ((zTT c k).2.2.2 = true ∧ y.1.name = "<init>" ∧ (zTT c k).1 = y.1.cls)) (hv : ∀ G I L P a, zfv G I L P a k (zty c k) = zrf G (P a k)) (hn : ∀ q, narrow (zty c k) (.ref q) = .ref q) (hfit : ∀ q, fits (zty c k) (.ref q) = true)
    (kk : zW y R mc ms Q (pc + 3) lv st I L (zuP P a k (some b)) nx cs sl) : zW y R mc ms Q pc lv (.ref b :: .ref a :: st) I L P nx cs sl :=
  z_put0 h hF ha hs hfin (fun _ => hn _) (fun _ => hfit _) (fun G => by rw [hv, zuP_at]; simp [va_up, ztr, zrf]) (fun _ _ hj => zfv_P hj) (fun _ hb => ⟨rfl, rfl, zuP_ne hb⟩) kk
/-! answers -/
theorem z_ireturn {v : Int32} {ty : FieldType} (h : decode y.2.1 pc = .ok (.ireturn, 1)) (hr : y.2.2.2 = some ty) (hn : narrow ty (.int v) = .int v) (hc : cs ≤ mc) (hs : sl ≤ ms) (hq : Q (some (.int v)) I L P nx) : zW y R mc ms Q pc lv [.int v] I L P nx cs sl := by
  intro G p l e s m args below meth c0 H locs ls C hR hS hl
  refine W.widen hc hs ?_
  exact W.zret (ty := ty) C.1 C.2.1 (C.2.2.1.trans hr) hn (fun t ht hW => ⟨⟨some (.int v), I, L, P, nx, rfl, hq, by rw [ht]; exact hR⟩, hS.F ht⟩) hS.2.2 h C.2.2.2.2.2.2.1
theorem z_lreturn {v : Int64} (h : decode y.2.1 pc = .ok (.lreturn, 1)) (hr : y.2.2.2 = some .long) (hc : cs ≤ mc) (hs : sl ≤ ms) (hq : Q (some (.long v)) I L P nx) : zW y R mc ms Q pc lv [.long v] I L P nx cs sl := by
  intro G p l e s m args below meth c0 H locs ls C hR hS hl
  refine W.widen hc hs ?_
  exact W.lret C.1 C.2.1 (C.2.2.1.trans hr) (fun t ht hW => ⟨⟨some (.long v), I, L, P, nx, rfl, hq, by rw [ht]; exact hR⟩, hS.F ht⟩) hS.2.2 h C.2.2.2.2.2.2.1
theorem z_return (h : decode y.2.1 pc = .ok (.return_, 1)) (hr : y.2.2.2 = none) (hc : cs ≤ mc) (hs : sl ≤ ms) (hq : Q none I L P nx) : zW y R mc ms Q pc lv [] I L P nx cs sl := by
  intro G p l e s m args below meth c0 H locs ls C hR hS hl
  refine W.widen hc hs ?_
  exact W.vret C.1 C.2.1 (C.2.2.1.trans hr) (fun t ht hW => ⟨⟨none, I, L, P, nx, rfl, hq, by rw [ht]; exact hR⟩, hS.F ht⟩) hS.2.2 h C.2.2.2.2.2.2.1
theorem z_areturn {b : Nat} {t0 : FieldType} (h : decode y.2.1 pc = .ok (.areturn, 1)) (hr : y.2.2.2 = some (.array t0)) (hc : cs ≤ mc) (hs : sl ≤ ms) (hq : Q (some (.ref b)) I L P nx) : zW y R mc ms Q pc lv [.ref b] I L P nx cs sl := by
  intro G p l e s m args below meth c0 H locs ls C hR hS hl
  refine W.widen hc hs ?_
  exact W.aret C.1 C.2.1 (C.2.2.1.trans hr) (Or.inr ⟨_, rfl⟩) (Or.inr ⟨_, rfl⟩) (fun t ht hW => ⟨⟨some (.ref b), I, L, P, nx, rfl, hq, by rw [ht]; exact hR⟩, hS.F ht⟩) hS.2.2 h C.2.2.2.2.2.2.1
/-! a method's walk from its entry -/
theorem zM_of {d : Nat} {av : List Value} {lv0 : zV} (hp : plainName y.1.cls = true) (hn : zasz av ≤ y.2.2.1) (he : zargs av ++ List.replicate (y.2.2.1 - (zargs av).length) none = lv0) (k : zW y (zRm d mc ms) mc ms Q 0 lv0 [] I L P nx 0 0) : zM y d mc ms av I L P nx Q := by
  intro l G
  refine Met.ofW (cc := y.2.1) (maxL := y.2.2.1) (ret := y.2.2.2) hp rfl ?_
  intro p e s m args below meth c s₁ B hml hv
  obtain ⟨rfl, hR, hK, hB⟩ := hv
  have hts := atoms_spec (ws := Cond.code y.1 y.2.1 y.2.2.1 y.2.2.2 :: zTb) B.pre
  have hown : s.vm.findClass y.1.cls = some m.cls := findClass_of_methodNamed B.named
  rw [lg_entry_eq]
  refine k G p l e s m _ below meth c s.heap [] _ ⟨B.exec, B.bytes, B.returns, hml, hown, fun w hw => hts w (List.mem_cons_of_mem _ hw), B.notSynchronized, (name_of_methodNamed B.named B.method).1, hK, hB⟩ hR va_S.rf ?_
  refine zlv_entry lv0 (by rw [zasz_eq]; exact hn) (fun k v hk => ?_)
  rw [← he] at hk
  have hlt : k < (zargs av).length := by
    rcases Nat.lt_or_ge k (zargs av).length with q | q
    · exact q
    · rw [List.getElem?_append_right q, List.getElem?_replicate] at hk
      split at hk <;> simp at hk
  rw [List.getElem?_append_left hlt] at hk
  have := zargs_in G av 0 k v hk
  rwa [Nat.zero_add] at this
/-! calls -/
theorem z_after {lv : zV} {mc2 ms2 : Nat} {As : Array Value} {G : zG} {p : Program} {l : Launch} {e : Env} {s : State} {m : MethodId} {args : Array Value} {below : List Frame} {meth : Method} {c : Code} {H : Heap} {locs : List Loc} {ls : Array Slot} {st0 : List Value} (C : zCx G y p s m args meth c) (hS : va_S (zA G) s.heap H locs) (hl : zlv G ls y.2.2.1 lv)
    {Q2 : zQt} (hQ : ∀ v I' L' P' nx', Q2 v I' L' P' nx' → zW y R mc ms Q (pc + 3) lv (v.toList ++ st) I' L' P' nx' (cs + mc2) (sl + ms2)) (run : va_Run p l e R s m args below meth c H locs cs sl mc2 ms2 (F0 m pc ls st0) (st.map (ztr G)) (zQc G Q2 As) (zA G)) :
    W p l e R s m args below meth c H locs cs sl (MQ below (zQc G Q) args s mc ms (zA G)) (F0 m pc ls st0) := by
  intro T hT X
  obtain ⟨v, s0, t, T', Lc, h0, X', hL, e1, e2, ⟨⟨v', I', L', P', nx', hv, hq, hR'⟩, hz, hk⟩, stp⟩ := run T hT X
  have hv2 : v = v'.map (ztr G) := by injection hv
  subst hv2
  rw [h0] at hz hk
  have hlist : (v'.toList ++ st).map (ztr G) = (v'.map (ztr G)).toList ++ st.map (ztr G) := by cases v' <;> simp
  have hq2 := hQ _ _ _ _ _ hq G p l e s m args below meth c T'.heap (locs ++ Lc) ls C (by rw [e1]; exact hR')
    ⟨Nat.le_trans hS.1 (by rw [e1]; exact hz), fun q h1 h2 => by rw [e1, hk q (Nat.lt_of_lt_of_le h1 hS.1) h2]; exact hS.2.1 q h1 h2, fun q hq => by
      rcases List.mem_append.mp hq with h | h
      · exact hS.2.2 q h
      · exact hL q h⟩ hl
  rw [hlist] at hq2
  obtain ⟨t2, a1, b1⟩ := hq2 T' rfl X'
  exact ⟨t2, stp t2 a1, b1⟩
theorem zPre {G : zG} {av : List Value} {s : State} {H : Heap} {locs : List Loc} {m : MethodId} {args : Array Value} {meth : Method} {c : Code} {p : Program} (C : zCx G y p s m args meth c) (hR : zRel G I L P nx H) (hS : va_S (zA G) s.heap H locs) : ∀ U : State, U.heap = H → s.WarmedH U.vm → zPc G av I L P nx (av.map (ztr G)).toArray U :=
  fun U hU hW => ⟨rfl, by rw [hU]; exact hR, zK_moved hW hS hU C.2.2.2.2.2.2.2.2.1, by rw [hU]; exact Nat.le_trans C.2.2.2.2.2.2.2.2.2 hS.1⟩
theorem zcat_sum (G : zG) (st : List Value) : ((st.map (ztr G)).map fun v => v.category).sum = (st.map fun v => v.category).sum := by
  rw [List.map_map]
  congr 1
  apply List.map_congr_left
  intro v _
  exact ztr_cat G v
theorem z_callV {y2 : zY} {idx n d2 mc2 ms2 a c : Nat} {As st0 : List Value} (h : decode y.2.1 pc = .ok (.invokevirtual idx, 3)) (hC : zC y.1.cls idx y2 n) (hV : zCV y2) (hc : c < 12) (hcn : zRR c = y2.1.cls) (ha : a < nx) (hs : (zsh a).1 = c) (hn : As.length = n) (hst : As.reverse ++ .ref a :: st = st0) (hrm : (st.map fun v => v.category).sum ≤ 8) (hd : d2 + 1 ≤ R.frames ∧ 64 * (d2 + 1) ≤ R.locals) (hcs : cs + mc2 ≤ R.cells ∧ sl + ms2 ≤ R.slots)
    {Q2 : zQt} (hM : zM y2 d2 mc2 ms2 (.ref a :: As) I L P nx Q2) (hQ : ∀ v I' L' P' nx', Q2 v I' L' P' nx' → zW y R mc ms Q (pc + 3) lv (v.toList ++ st) I' L' P' nx' (cs + mc2) (sl + ms2)) : zW y R mc ms Q pc lv st0 I L P nx cs sl := by
  intro G p l e s m args below meth c0 H locs ls C hR hS hl
  subst hst
  have hts := C.2.2.2.2.2.1
  refine z_after (st := st) (mc2 := mc2) (ms2 := ms2) (As := (Value.ref (zad G a) :: As.map (ztr G)).toArray) C hS hl hQ ?_
  refine va_runV (b := zad G a) (As := As.map (ztr G)) (rest := st.map (ztr G)) (Ts := zTb) (own := y.1.cls) (C := y2.1.cls) (bytes := y2.2.1) (maxL := y2.2.2.1) (ret := y2.2.2.2) (n := n) (nL := y.2.2.1) ⟨C.1, C.2.1, C.2.2.2.1, C.2.2.2.2.1, hts⟩ (hM l G)
    ⟨callB_of n hts (ws' := zTb) (fun w hw => by rcases List.mem_cons.mp hw with q | q; rw [q]; exact zTb_good _ hC.2.1; exact zTb_good _ q) rfl rfl rfl (hts _ hC.2.2.1) (hts _ hC.1) hC.2.2.2.1 ⟨hd.1, by have := hC.2.2.2.2; have := hd.2; show 8 + (_ + 11) + 64 * d2 ≤ _; omega⟩, hts _ hV.1, hts _ hV.2⟩
    ⟨zPc_blind, ?_, zPre C hR hS⟩ rfl (by simpa using hn) hl.1 (by simp [ztr]) (lv_room (by rw [zcat_sum]; exact hrm)) h hcs
  rw [zad_own (by have := hR.2.1; omega), ← hcn]
  exact va_recv C.2.2.2.2.2.2.2.2.1.1 hR.2.2 (zcl hc) (by rw [zws_at ha, zE_obj hs hc])
theorem z_callS {y2 : zY} {idx n d2 mc2 ms2 : Nat} {As st0 : List Value} (h : decode y.2.1 pc = .ok (.invokestatic idx, 3)) (hC : zC y.1.cls idx y2 n) (hV : Cond.static y2.1 ∈ zTb) (hn : As.length = n) (hst : As.reverse ++ st = st0) (hrm : (st.map fun v => v.category).sum ≤ 8) (hd : d2 + 1 ≤ R.frames ∧ 64 * (d2 + 1) ≤ R.locals) (hcs : cs + mc2 ≤ R.cells ∧ sl + ms2 ≤ R.slots)
    {Q2 : zQt} (hM : zM y2 d2 mc2 ms2 As I L P nx Q2) (hQ : ∀ v I' L' P' nx', Q2 v I' L' P' nx' → zW y R mc ms Q (pc + 3) lv (v.toList ++ st) I' L' P' nx' (cs + mc2) (sl + ms2)) : zW y R mc ms Q pc lv st0 I L P nx cs sl := by
  intro G p l e s m args below meth c0 H locs ls C hR hS hl
  subst hst
  have hts := C.2.2.2.2.2.1
  refine z_after (st := st) (mc2 := mc2) (ms2 := ms2) (As := (As.map (ztr G)).toArray) C hS hl hQ ?_
  exact va_runS (As := As.map (ztr G)) (rest := st.map (ztr G)) (Ts := zTb) (own := y.1.cls) (bytes := y2.2.1) (maxL := y2.2.2.1) (ret := y2.2.2.2) (n := n) (nL := y.2.2.1) ⟨C.1, C.2.1, C.2.2.2.1, C.2.2.2.2.1, hts⟩ (hM l G)
    ⟨callB_of n hts (ws' := zTb) (fun w hw => by rcases List.mem_cons.mp hw with q | q; rw [q]; exact zTb_good _ hC.2.1; exact zTb_good _ q) rfl rfl rfl (hts _ hC.2.2.1) (hts _ hC.1) hC.2.2.2.1 ⟨hd.1, by have := hC.2.2.2.2; have := hd.2; show 8 + (_ + 11) + 64 * d2 ≤ _; omega⟩, hts _ hV⟩
    ⟨zPc_blind, zPre C hR hS⟩ rfl (by simpa using hn) hl.1 (by simp) (lv_room (by rw [zcat_sum]; exact hrm)) h hcs
end ZH
