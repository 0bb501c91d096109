/-! ===== z, 7: the machine while cells are made ===== -/
theorem zRel_push {G : zG} {I : zI} {L : zL} {P : zP} {nx : Nat} {H H1 : Heap} (hR : zRel G I L P nx H) (hn : nx < 205) (z : H1.size = H.size + 1) (o : ∀ q, q < H.size → H1[q]? = H[q]?) (e : va_at G.2.1 vwCl (G.1 + nx, zE G I L P nx) H1) : zRel G I L P (nx + 1) H1 := by
  refine ⟨fun _ => by rw [z, hR.1 hn]; omega, by omega, ?_⟩
  rw [← zws_push]
  refine (hR.2.2.kept (fun k x hx => o x.1 ((hR.2.2 k x hx).lt))).app (fun k x hx => ?_)
  have hz : k < 1 := (List.getElem?_eq_some_iff.mp hx).1
  rw [show k = 0 by omega] at hx
  cases hx
  exact e
theorem zS_push {A : Nat → Prop} {H0 H H1 : Heap} {locs : List Loc} (hS : va_S A H0 H locs) (z : H.size ≤ H1.size) (o : ∀ q, q < H.size → H1[q]? = H[q]?) : va_S A H0 H1 locs :=
  ⟨Nat.le_trans hS.1 z, fun x h1 h2 => (o x (Nat.lt_of_lt_of_le h1 hS.1)).trans (hS.2.1 x h1 h2), hS.2.2⟩
/-- all cells from nx on are as new ones are -/
def zFz (nx : Nat) (I : zI) (L : zL) (P : zP) : Prop := ∀ b, nx ≤ b → ∀ k, I b k = 0 ∧ L b k = 0 ∧ P b k = none
theorem zFz_le {n m : Nat} {I : zI} {L : zL} {P : zP} (h : zFz n I L P) (hm : n ≤ m) : zFz m I L P := fun b hb => h b (Nat.le_trans hm hb)
def ztok : FieldType → Bool
  | .float => false
  | .double => false
  | _ => true
theorem ztok_all : ∀ c, c < 12 → ∀ j, j < znf c → ztok (zty c j) = true := by decide +kernel
theorem zdef1 {G : zG} {I : zI} {L : zL} {P : zP} {nx j : Nat} {ty : FieldType} (h : zFz nx I L P) (ht : ztok ty = true) : defaultValue ty = zfv G I L P nx j ty := by
  obtain ⟨h1, h2, h3⟩ := h nx (Nat.le_refl _) j
  cases ty <;> first | (simp [ztok] at ht; done) | (unfold zfv; simp only [h1, h2, h3]; rfl)
section ZG
variable {y : zY} {R : Room} {mc ms : Nat} {Q : zQt} {pc : Nat} {lv : zV} {st : List Value} {I : zI} {L : zL} {P : zP} {nx cs sl : Nat}
theorem z_new {c idx : Nat} (h : decode y.2.1 pc = .ok (.new idx, 3)) (hc : c < 12) (hw : Cond.classLink y.1.cls idx (zRR c) ∈ zTb ∧ Cond.instantiable (zRR c) (znf c) ∈ zTb ∧ Cond.initialized (zRR c) ∈ zTb) (hn : nx < 205) (hs : (zsh nx).1 = c) (hF : zFz nx I L P) (hcs : cs + 1 ≤ R.cells) (hsl : sl + znf c ≤ R.slots)
    (kk : zW y R mc ms Q (pc + 3) lv (.ref nx :: st) I L P (nx + 1) (cs + 1) (sl + znf c)) : zW y R mc ms Q pc lv st I L P nx cs sl := by
  intro G p l e s m args below meth c0 H locs ls C hR hS hl
  have hts := C.2.2.2.2.2.1
  have hK := C.2.2.2.2.2.2.2.2.1.1
  have hKn := hK.1 c _ (zcl hc)
  have hz : H.size = G.1 + nx := hR.1 hn
  refine W.newcK C.1 C.2.1 C.2.2.2.2.1 (hts _ hw.1) (hts _ hw.2.1) (hts _ hw.2.2) rfl h hcs hsl hKn.2.1 rfl fun H1 kC hkC e1 z1 o1 => ?_
  have hk := kk G p l e s m args below meth c0 H1 locs ls C (zRel_push hR hn z1 o1 ?_) (zS_push hS (by omega) o1) hl
  · have ez : zad G nx = H.size := by rw [zad_own (by omega), hz]
    have hk : W p l e R s m args below meth c0 H1 locs (cs + 1) (sl + znf c) _ (F0 m (pc + 3) ls (.ref (zad G nx) :: st.map (ztr G))) := hk
    rw [ez] at hk
    exact hk
  · rw [zE_obj hs hc, ← hz]
    refine ⟨_, zcl hc, (u_born (zty c) hts (zin c hc) hKn hkC e1 (ztyok c hc)).to (fun j hj => ?_)⟩
    show defaultValue (zty c j) = (zfl G I L P nx c).getD j .null
    rw [List.getD_eq_getElem?_getD, zfl_at hj]
    exact zdef1 hF (ztok_all c hc j hj)
theorem z_newa0 {t0 k N : Nat} {at_ : ArrayType} {ty : FieldType} {n : Int32} (h : decode y.2.1 pc = .ok (.newarray at_, 2)) (hty : newarray.typeOf at_ = ty) (hw : Cond.arrayClass ty ∈ zTb) (ht : ∀ G : zG, (ztys G)[t0]? = some (G.2.2.1 k, ty)) (hra : ∀ U cA, va_RA U cA ty → U.vm.findClass ("[" ++ ty.toString) = some cA)
    (hnx : nx < 205) (hs : zsh nx = (k, N)) (hk : 100 ≤ k) (hn0 : ¬ n < 0) (hn : n.toNatClampNeg = N) (hb : N * componentBytes ty ≤ 536870912) (hz : ∀ G cA, vp_cell cA (zar G I L P nx k N) = arrV cA N (fun _ => defaultValue ty)) (hcs : cs + 1 ≤ R.cells) (hsl : sl + N ≤ R.slots)
    (kk : zW y R mc ms Q (pc + 2) lv (.ref nx :: st) I L P (nx + 1) (cs + 1) (sl + N)) : zW y R mc ms Q pc lv (.int n :: st) I L P nx cs sl := by
  intro G p l e s m args below meth c0 H locs ls C hR hS hl
  have hts := C.2.2.2.2.2.1
  have hK := C.2.2.2.2.2.2.2.2.1.1
  have hz1 : H.size = G.1 + nx := hR.1 hnx
  subst hty
  refine va_newaK C.1 C.2.1 (hts _ hw) rfl h rfl hn0 hn hb hcs hsl rfl fun H1 cA e1 z1 o1 hAr hNm => ?_
  have hcA : G.2.2.1 k = cA := Option.some.inj ((hra _ _ (hK.2 t0 _ (ht G)).2).symm.trans hNm)
  have hk2 := kk G p l e s m args below meth c0 H1 locs ls C (zRel_push hR hnx z1 o1 ?_) (zS_push hS (by omega) o1) hl
  · have ez : zad G nx = H.size := by rw [zad_own (by omega), hz1]
    have hk2 : W p l e R s m args below meth c0 H1 locs (cs + 1) (sl + N) _ (F0 m (pc + 2) ls (.ref (zad G nx) :: st.map (ztr G))) := hk2
    rw [ez] at hk2
    exact hk2
  · rw [zE_arr hs hk, ← hz1]
    show H1[H.size]? = some (vp_cell _ _)
    rw [hz, hcA]
    exact e1
theorem z_newI {N : Nat} {n : Int32} (h : decode y.2.1 pc = .ok (.newarray .int, 2)) (hw : Cond.arrayClass .int ∈ zTb) (hnx : nx < 205) (hs : zsh nx = (100, N)) (hn0 : ¬ n < 0) (hn : n.toNatClampNeg = N) (hb : N * componentBytes .int ≤ 536870912) (hF : zFz nx I L P) (hcs : cs + 1 ≤ R.cells) (hsl : sl + N ≤ R.slots)
    (kk : zW y R mc ms Q (pc + 2) lv (.ref nx :: st) I L P (nx + 1) (cs + 1) (sl + N)) : zW y R mc ms Q pc lv (.int n :: st) I L P nx cs sl :=
  z_newa0 (t0 := 0) (k := 100) h rfl hw (fun _ => rfl) (fun _ _ q => q) hnx hs (by decide) hn0 hn hb (fun G cA => by
    show arrV cA N (fun j => .int (I nx j)) = _
    congr 1
    funext j
    rw [(hF nx (Nat.le_refl _) j).1]
    rfl) hcs hsl kk
theorem z_newB {N : Nat} {n : Int32} (h : decode y.2.1 pc = .ok (.newarray .byte, 2)) (hw : Cond.arrayClass .byte ∈ zTb) (hnx : nx < 205) (hs : zsh nx = (102, N)) (hn0 : ¬ n < 0) (hn : n.toNatClampNeg = N) (hb : N * componentBytes .byte ≤ 536870912) (hF : zFz nx I L P) (hcs : cs + 1 ≤ R.cells) (hsl : sl + N ≤ R.slots)
    (kk : zW y R mc ms Q (pc + 2) lv (.ref nx :: st) I L P (nx + 1) (cs + 1) (sl + N)) : zW y R mc ms Q pc lv (.int n :: st) I L P nx cs sl :=
  z_newa0 (t0 := 2) (k := 102) h rfl hw (fun _ => rfl) (fun _ _ q => q) hnx hs (by decide) hn0 hn hb (fun G cA => by
    show arrV cA N (fun j => .int (I nx j)) = _
    congr 1
    funext j
    rw [(hF nx (Nat.le_refl _) j).1]
    rfl) hcs hsl kk
theorem z_newZ {N : Nat} {n : Int32} (h : decode y.2.1 pc = .ok (.newarray .boolean, 2)) (hw : Cond.arrayClass .boolean ∈ zTb) (hnx : nx < 205) (hs : zsh nx = (103, N)) (hn0 : ¬ n < 0) (hn : n.toNatClampNeg = N) (hb : N * componentBytes .boolean ≤ 536870912) (hF : zFz nx I L P) (hcs : cs + 1 ≤ R.cells) (hsl : sl + N ≤ R.slots)
    (kk : zW y R mc ms Q (pc + 2) lv (.ref nx :: st) I L P (nx + 1) (cs + 1) (sl + N)) : zW y R mc ms Q pc lv (.int n :: st) I L P nx cs sl :=
  z_newa0 (t0 := 3) (k := 103) h rfl hw (fun _ => rfl) (fun _ _ q => q) hnx hs (by decide) hn0 hn hb (fun G cA => by
    show arrV cA N (fun j => .int (I nx j)) = _
    congr 1
    funext j
    rw [(hF nx (Nat.le_refl _) j).1]
    rfl) hcs hsl kk
theorem z_newL {N : Nat} {n : Int32} (h : decode y.2.1 pc = .ok (.newarray .long, 2)) (hw : Cond.arrayClass .long ∈ zTb) (hnx : nx < 205) (hs : zsh nx = (101, N)) (hn0 : ¬ n < 0) (hn : n.toNatClampNeg = N) (hb : N * componentBytes .long ≤ 536870912) (hF : zFz nx I L P) (hcs : cs + 1 ≤ R.cells) (hsl : sl + N ≤ R.slots)
    (kk : zW y R mc ms Q (pc + 2) lv (.ref nx :: st) I L P (nx + 1) (cs + 1) (sl + N)) : zW y R mc ms Q pc lv (.int n :: st) I L P nx cs sl :=
  z_newa0 (t0 := 1) (k := 101) h rfl hw (fun _ => rfl) (fun _ _ q => q) hnx hs (by decide) hn0 hn hb (fun G cA => by
    show arrV cA N (fun j => .long (L nx j)) = _
    congr 1
    funext j
    rw [(hF nx (Nat.le_refl _) j).2.1]
    rfl) hcs hsl kk
/-- an array of scenes -/
theorem z_newQ {N idx : Nat} {n : Int32} (h : decode y.2.1 pc = .ok (.anewarray idx, 3)) (hw : Cond.classLink y.1.cls idx "NinetyNights$Scene" ∈ zTb) (hnx : nx < 205) (hs : zsh nx = (105, N)) (hn0 : ¬ n < 0) (hn : n.toNatClampNeg = N) (hb : N * 4 ≤ 536870912) (hF : zFz nx I L P) (hcs : cs + 1 ≤ R.cells) (hsl : sl + N ≤ R.slots)
    (kk : zW y R mc ms Q (pc + 3) lv (.ref nx :: st) I L P (nx + 1) (cs + 1) (sl + N)) : zW y R mc ms Q pc lv (.int n :: st) I L P nx cs sl := by
  intro G p l e s m args below meth c0 H locs ls C hR hS hl
  have hts := C.2.2.2.2.2.1
  have hK := C.2.2.2.2.2.2.2.2.1.1
  have hz1 : H.size = G.1 + nx := hR.1 hnx
  subst hn
  refine W.anew C.1 C.2.1 C.2.2.2.2.1 (hts _ hw) (va_AO.use C.2.2.2.2.2.2.2.2.1.2.2.2.1) rfl h rfl hn0 hb hcs hsl fun cA kA comp f1 f2 f3 f4 => ?_
  generalize hH1 : H.push ({ cls := cA, slots := Array.replicate n.toNatClampNeg .null, vm := .none } : Cell) = H1
  have z1 : H1.size = H.size + 1 := by rw [← hH1, Array.size_push]
  have e1 : H1[H.size]? = some (arrV cA n.toNatClampNeg (fun _ => .null)) := by rw [← hH1, Array.getElem?_push_size, ← arrV_new]
  have o1 : ∀ q : Nat, q < H.size → H1[q]? = H[q]? := fun q hq => by rw [← hH1, Array.getElem?_push, if_neg (Nat.ne_of_lt hq)]
  have hcA : G.2.2.1 105 = cA := by
    obtain ⟨-, kA2, comp2, g1, g2, g3, g4⟩ := hK.2 5 (G.2.2.1 105, .object "NinetyNights$Scene") rfl
    exact Option.some.inj (g4.symm.trans f1)
  have hk2 := kk G p l e s m args below meth c0 H1 locs ls C (zRel_push hR hnx z1 o1 ?_) (zS_push hS (by omega) o1) hl
  · have ez : zad G nx = H.size := by rw [zad_own (by omega), hz1]
    have hk2 : W p l e R s m args below meth c0 H1 locs (cs + 1) (sl + n.toNatClampNeg) _ (F0 m (pc + 3) ls (.ref (zad G nx) :: st.map (ztr G))) := hk2
    rw [ez] at hk2
    exact hk2
  · rw [zE_arr hs (by decide), ← hz1, hcA]
    show H1[H.size]? = some (arrV cA n.toNatClampNeg (fun j => va_rf ((P nx j).map (zad G))))
    rw [e1]
    congr 2
    funext j
    rw [(hF nx (Nat.le_refl _) j).2.2]
    rfl
theorem z_objInit {idx a : Nat} (h : decode y.2.1 pc = .ok (.invokespecial idx, 3)) (hw : Cond.methodLink y.1.cls idx Lib.objectInit ∈ zTb ∧ Cond.instanceMethod Lib.objectInit ∈ zTb ∧ Cond.code Lib.objectInit ⟨#[0xb1]⟩ 1 none ∈ zTb) (hrm : (st.map fun v => v.category).sum ≤ 8) (hd : 1 ≤ R.frames ∧ 64 ≤ R.locals)
    (kk : zW y R mc ms Q (pc + 3) lv st I L P nx cs sl) : zW y R mc ms Q pc lv (.ref a :: st) I L P nx cs sl := by
  intro G p l e s m args below meth c0 H locs ls C hR hS hl
  have hts := C.2.2.2.2.2.1
  refine W.objInit C.1 C.2.1 C.2.2.2.2.1 (hts _ hw.1) (hts _ hw.2.1) (hts _ hw.2.2) rfl (by show ls.size = _; rw [C.2.2.2.1, hl.1]) rfl h hd.1 ?_ (kk G p l e s m args below meth c0 H locs ls C hR hS hl)
  have := hd.2
  have e : ((st.map (ztr G)).map fun v => v.category).sum ≤ 8 := by rw [zcat_sum]; exact hrm
  show 2 * 0 + ((st.map (ztr G)).map fun v => v.category).sum + 12 ≤ R.locals
  omega
theorem z_callI {y2 : zY} {idx n d2 mc2 ms2 a : Nat} {As st0 : List Value} (h : decode y.2.1 pc = .ok (.invokespecial idx, 3)) (hC : zC y.1.cls idx y2 n) (hr : y2.2.2.2 = none) (hi : y2.1.name = "<init>") (hV : Cond.instanceMethod y2.1 ∈ zTb) (hn : As.length = n) (hst : As.reverse ++ .ref a :: st = st0) (hrm : (st.map fun v => v.category).sum ≤ 8) (hd : d2 + 1 ≤ R.frames ∧ 64 * (d2 + 1) ≤ R.locals) (hcs : cs + mc2 ≤ R.cells ∧ sl + ms2 ≤ R.slots)
    {Q2 : zQt} (hM : zM y2 d2 mc2 ms2 (.ref a :: As) I L P nx Q2) (hQ : ∀ v I' L' P' nx', Q2 v I' L' P' nx' → zW y R mc ms Q (pc + 3) lv (v.toList ++ st) I' L' P' nx' (cs + mc2) (sl + ms2)) : zW y R mc ms Q pc lv st0 I L P nx cs sl := by
  intro G p l e s m args below meth c0 H locs ls C hR hS hl
  obtain ⟨y21, y22, y23, y24⟩ := y2
  simp only at hr
  subst hr
  subst hst
  have hts := C.2.2.2.2.2.1
  refine z_after (st := st) (mc2 := mc2) (ms2 := ms2) (As := (Value.ref (zad G a) :: As.map (ztr G)).toArray) C hS hl hQ ?_
  exact va_runI (b := zad G a) (As := As.map (ztr G)) (rest := st.map (ztr G)) (Ts := zTb) (own := y.1.cls) (bytes := y22) (maxL := y23) (n := n) (nL := y.2.2.1) ⟨C.1, C.2.1, C.2.2.2.1, C.2.2.2.2.1, hts⟩ (hM l G)
    ⟨callB_of n hts (ws' := zTb) (fun w hw => by rcases List.mem_cons.mp hw with q | q; rw [q]; exact zTb_good _ hC.2.1; exact zTb_good _ q) rfl rfl rfl (hts _ hC.2.2.1) (hts _ hC.1) hC.2.2.2.1 ⟨hd.1, by have h9 : y23 ≤ 45 := hC.2.2.2.2; have := hd.2; show 8 + (y23 + 11) + 64 * d2 ≤ _; omega⟩, hi, hts _ hV⟩
    ⟨zPc_blind, zPre C hR hS⟩ rfl (by simpa using hn) hl.1 (by simp [ztr]) (lv_room (by rw [zcat_sum]; exact hrm)) h hcs
/-- the same, of a nest mate's own -/
def zCN (cls : String) (idx : Nat) (y : zY) (n : Nat) (host : String) : Prop := Cond.methodLinkNest cls idx y.1 host ∈ zNs ∧ Cond.code y.1 y.2.1 y.2.2.1 y.2.2.2 ∈ zTb ∧ Cond.initialized y.1.cls ∈ zTb ∧ (y.1.cls ≠ "java/lang/invoke/MethodHandle" ∧ y.1.cls ≠ "java/lang/invoke/VarHandle" ∧ (parseMethodDescriptor y.1.desc).map (fun d => d.parameters.length) = some n) ∧ y.2.2.1 ≤ 45
theorem z_callIN {y2 : zY} {idx n d2 mc2 ms2 a : Nat} {host : String} {As st0 : List Value} (h : decode y.2.1 pc = .ok (.invokespecial idx, 3)) (hC : zCN y.1.cls idx y2 n host) (hr : y2.2.2.2 = none) (hi : y2.1.name = "<init>") (hV : Cond.instanceMethod y2.1 ∈ zTb) (hn : As.length = n) (hst : As.reverse ++ .ref a :: st = st0) (hrm : (st.map fun v => v.category).sum ≤ 8) (hd : d2 + 1 ≤ R.frames ∧ 64 * (d2 + 1) ≤ R.locals) (hcs : cs + mc2 ≤ R.cells ∧ sl + ms2 ≤ R.slots)
    {Q2 : zQt} (hM : zM y2 d2 mc2 ms2 (.ref a :: As) I L P nx Q2) (hQ : ∀ v I' L' P' nx', Q2 v I' L' P' nx' → zW y R mc ms Q (pc + 3) lv (v.toList ++ st) I' L' P' nx' (cs + mc2) (sl + ms2)) : zW y R mc ms Q pc lv st0 I L P nx cs sl := by
  intro G p l e s m args below meth c0 H locs ls C hR hS hl
  obtain ⟨y21, y22, y23, y24⟩ := y2
  simp only at hr
  subst hr
  subst hst
  have hts := C.2.2.2.2.2.1
  refine z_after (st := st) (mc2 := mc2) (ms2 := ms2) (As := (Value.ref (zad G a) :: As.map (ztr G)).toArray) C hS hl hQ ?_
  exact va_runIN (b := zad G a) (As := As.map (ztr G)) (rest := st.map (ztr G)) (Ts := zTb) (own := y.1.cls) (host := host) (bytes := y22) (maxL := y23) (n := n) (nL := y.2.2.1) ⟨C.1, C.2.1, C.2.2.2.1, C.2.2.2.2.1, hts⟩ (hM l G)
    ⟨va_cnB n hts (ws' := zTb) (fun w hw => by rcases List.mem_cons.mp hw with q | q; rw [q]; exact zTb_good _ hC.2.1; exact zTb_good _ q) rfl rfl rfl (C.2.2.2.2.2.2.2.2.1.2.1 _ hC.1) (hts _ hC.2.2.1) hC.2.2.2.1 ⟨hd.1, by have h9 : y23 ≤ 45 := hC.2.2.2.2; have := hd.2; show 8 + (y23 + 11) + 64 * d2 ≤ _; omega⟩, hi, hts _ hV⟩
    ⟨zPc_blind, zPre C hR hS⟩ rfl (by simpa using hn) hl.1 (by simp [ztr]) (lv_room (by rw [zcat_sum]; exact hrm)) h hcs
/-- a scene into an array of scenes -/
theorem z_aastore {a n b : Nat} {i : Int32} (h : decode y.2.1 pc = .ok (.aastore, 1)) (ha : a < nx) (hs : zsh a = (105, n)) (hi : vp_in i n) (hb : b < nx) (hsb : (zsh b).1 = 5) (kk : zW y R mc ms Q (pc + 1) lv st I L (zuP P a i.toNatClampNeg (some b)) nx cs sl) : zW y R mc ms Q pc lv (.ref b :: .int i :: .ref a :: st) I L P nx cs sl := by
  intro G p l e s m args below meth c0 H locs ls C hR hS hl
  show W p l e R s m args below meth c0 H locs cs sl _ (F0 m pc ls (.ref (zad G b) :: .int i :: .ref (zad G a) :: st.map (ztr G)))
  rw [zad_nx hR ha, zad_nx hR hb]
  have hK := C.2.2.2.2.2.2.2.2.1.1
  have hlt : i.toNatClampNeg < n := Nat.not_le.mp fun q => hi (Or.inr q)
  have h0 : ¬ i < 0 := fun q => hi (Or.inl q)
  have hca : H[G.1 + a]? = some (vp_cell (G.2.2.1 105) (n, .inr (.inr (.inr (.inr (fun j => (P a j).map (zad G))))))) := by
    have := hR.2.2 a _ (zws_at ha)
    rw [zE_arr hs (by decide)] at this
    exact this
  have hvb := hR.2.2 b _ (zws_at hb)
  rw [zE_obj hsb (by decide)] at hvb
  obtain ⟨r', hr', cellV, g1, g2, g3, -⟩ := hvb
  have hcls := (hK.1 5 _ (zcl (c := 5) (by decide))).2
  obtain ⟨-, kA, comp, k1, k2, k3, -⟩ := hK.2 5 (G.2.2.1 105, .object "NinetyNights$Scene") rfl
  have hcomp : comp = G.2.1.1 5 := Option.some.inj (k3.symm.trans hcls.1)
  subst hcomp
  obtain ⟨kC, hkC, -⟩ := hcls.2
  refine W.aast C.1 C.2.1 hca (fun q h => by cases h) (fun h => by cases h) k1 k2 rfl hkC ⟨h0, by show _ < (arrV _ _ _).slots.size; rw [arrV_size]; exact hlt⟩ g1 (fun q h => by rw [g3] at h; cases h) (by rw [g2]; exact hkC) (by rw [g2]; exact va_assign hcls) rfl rfl h fun H1 e1 z oq => ?_
  refine kk G p l e s m args below meth c0 H1 _ ls C (zRel_upd hR ha ?_ (fun b2 hb2 => zE_congr rfl rfl (zuP_ne hb2)) z oq) (hS.put z oq zin_A) hl
  rw [zE_arr hs (by decide)]
  show H1[G.1 + a]? = some (vp_cell _ (n, .inr (.inr (.inr (.inr (fun j => (zuP P a i.toNatClampNeg (some b) a j).map (zad G)))))))
  rw [e1, zuP_at, vp_cell_q, vp_cell_q, arrV_store]
  congr 2
  funext q
  by_cases hq : q = i.toNatClampNeg
  · subst hq
    simp [updV, va_up, va_rf, zad_nx hR hb]
  · simp [updV, va_up, hq]
end ZG
