/-! ===== what is the same wherever the possible worlds, and what is like among them, are the same ===== -/
section AG
variable {np N : Nat} {po po' : Nat → Prop} {lk lk' : Nat → Nat → Nat → Prop}
theorem sCo_iff (hpo : ∀ w, w < N → (po w ↔ po' w)) (hlk : ∀ p a b, p < np → a < N → b < N → po a → po b → (lk p a b ↔ lk' p a b)) {a b : Nat} (ha : a < N) (pa : po a) : sCo np N po lk a b ↔ sCo np N po' lk' a b :=
  ⟨fun h => sCo_c hpo hlk ha pa h, fun h => sCo_c (fun u hu => (hpo u hu).symm) (fun p c u hp hc hu pc pu => (hlk p c u hp hc hu ((hpo c hc).mpr pc) ((hpo u hu).mpr pu)).symm) ha ((hpo a ha).mp pa) h⟩
theorem sHas_ag (hpo : ∀ w, w < N → (po w ↔ po' w)) {l l' : Nat → Nat → Prop} {p w : Nat} {b : Bool} (hlk : ∀ v, v < N → po v → (l w v ↔ l' w v)) : sHas N po l p w b ↔ sHas N po' l' p w b := by
  unfold sHas
  exact ⟨fun h v hv pv lv => h v hv ((hpo v hv).mpr pv) ((hlk v hv ((hpo v hv).mpr pv)).mpr lv), fun h v hv pv lv => h v hv ((hpo v hv).mp pv) ((hlk v hv pv).mp lv)⟩
theorem sGo_ag (hpo : ∀ w, w < N → (po w ↔ po' w)) {gn : Nat} {sty sty' : Nat → Prop} {own own' : Prop} {w p : Nat} (hs : sty p ↔ sty' p) (ho : own ↔ own') (hlk : ∀ v, v < N → po v → (lk p w v ↔ lk' p w v)) : sGo N po lk gn sty own w p ↔ sGo N po' lk' gn sty' own' w p := by
  unfold sGo
  rw [sHas_ag hpo hlk, sHas_ag hpo hlk, hs, ho]
theorem sOw_ag (hpo : ∀ w, w < N → (po w ↔ po' w)) {t p : Nat} (hlk : ∀ v, v < N → po v → (lk p t v ↔ lk' p t v)) : sOw N po lk t p = sOw N po' lk' t p := by
  unfold sOw
  rw [propext (sHas_ag (b := true) hpo hlk), propext (sHas_ag (b := false) hpo hlk)]
theorem eSt_ag {T : Nat → Prop} (hT : ∀ w, w < N → po w → T w) (hpo : ∀ w, w < N → (po w ↔ po' w)) (hlk : ∀ p a b, p < np → a < N → b < N → po a → po b → (lk p a b ↔ lk' p a b)) {g c n : Int32} {h : Nat} (hnp : np ≤ 8) (hnd : eNd np c n h) {R R' : Nat → Nat → Int32} (hR : ∀ j w, j < h → w < N → T w → R j w = R' j w) :
    ∀ j w, j < eHt c h → w < N → T w → eSt np N po lk g c n h R j w = eSt np N po' lk' g c n h R' j w := by
  intro j w hj hw tw
  unfold eSt
  unfold eHt at hj
  unfold eNd at hnd
  by_cases c1 : c = 110 ∨ c = 109 ∨ c = 104 ∨ c = 103
  · rw [if_pos c1, if_pos c1]
    rw [if_pos c1] at hj
    by_cases e : j = h
    · subst e; rw [va_up_self, va_up_self]
    · rw [va_up_ne _ _ e, va_up_ne _ _ e]; exact hR j w (by omega) hw tw
  rw [if_neg c1, if_neg c1]
  rw [if_neg c1] at hj hnd
  by_cases c2 : c = 126
  · rw [if_pos c2, if_pos c2]
    rw [if_pos (Or.inl c2)] at hj
    rw [if_neg (by rw [c2]; decide), if_pos (Or.inl c2)] at hnd
    by_cases e : j = h - 1
    · subst e; rw [va_up_self, va_up_self, hR (h - 1) w (by omega) hw tw]
    · rw [va_up_ne _ _ e, va_up_ne _ _ e]; exact hR j w hj hw tw
  rw [if_neg c2, if_neg c2]
  by_cases c3 : c = 107
  · rw [if_pos c3, if_pos c3]
    rw [if_pos (Or.inr (Or.inl c3))] at hj
    rw [if_pos c3] at hnd
    obtain ⟨h1, p, hp, rfl⟩ := hnd
    by_cases e : j = h - 1
    · subst e
      rw [va_up_self, va_up_self, nI_cl (by omega)]
      refine bP_c ⟨fun q => ⟨(hpo w hw).mp q.1, ?_⟩, fun q => ⟨(hpo w hw).mpr q.1, ?_⟩⟩
      · exact (sKn_c hpo (fun v hv pv => hlk p w v hp hw hv q.1 pv) (fun v hv pv => by rw [hR (h - 1) v (by omega) hv (hT v hv pv)])).mp q.2
      · exact (sKn_c hpo (fun v hv pv => hlk p w v hp hw hv ((hpo w hw).mpr q.1) pv) (fun v hv pv => by rw [hR (h - 1) v (by omega) hv (hT v hv pv)])).mpr q.2
    · rw [va_up_ne _ _ e, va_up_ne _ _ e]; exact hR j w hj hw tw
  rw [if_neg c3, if_neg c3]
  rw [if_neg c3] at hnd
  by_cases c4 : c = 97
  · rw [if_pos c4, if_pos c4]
    rw [if_pos (Or.inr (Or.inr (Or.inl c4)))] at hj
    rw [if_pos (Or.inr (Or.inl c4))] at hnd
    by_cases e : j = h - 1
    · subst e
      rw [va_up_self, va_up_self]
      refine bP_c ⟨fun q => ⟨(hpo w hw).mp q.1, fun p hp => ?_⟩, fun q => ⟨(hpo w hw).mpr q.1, fun p hp => ?_⟩⟩
      · exact (sKn_c hpo (fun v hv pv => hlk p w v hp hw hv q.1 pv) (fun v hv pv => by rw [hR (h - 1) v (by omega) hv (hT v hv pv)])).mp (q.2 p hp)
      · exact (sKn_c hpo (fun v hv pv => hlk p w v hp hw hv ((hpo w hw).mpr q.1) pv) (fun v hv pv => by rw [hR (h - 1) v (by omega) hv (hT v hv pv)])).mpr (q.2 p hp)
    · rw [va_up_ne _ _ e, va_up_ne _ _ e]; exact hR j w hj hw tw
  rw [if_neg c4, if_neg c4]
  by_cases c5 : c = 99
  · rw [if_pos c5, if_pos c5]
    rw [if_pos (Or.inr (Or.inr (Or.inr c5)))] at hj
    rw [if_pos (Or.inr (Or.inr c5))] at hnd
    by_cases e : j = h - 1
    · subst e
      rw [va_up_self, va_up_self]
      refine bP_c ⟨fun q => ⟨(hpo w hw).mp q.1, fun v hv pv hc hz => ?_⟩, fun q => ⟨(hpo w hw).mpr q.1, fun v hv pv hc hz => ?_⟩⟩
      · have pv' := (hpo v hv).mpr pv
        exact q.2 v hv pv' ((sCo_iff hpo hlk hw q.1).mpr hc) (by rw [hR (h - 1) v (by omega) hv (hT v hv pv')]; exact hz)
      · exact q.2 v hv ((hpo v hv).mp pv) ((sCo_iff hpo hlk hw ((hpo w hw).mpr q.1)).mp hc) (by rw [← hR (h - 1) v (by omega) hv (hT v hv pv)]; exact hz)
    · rw [va_up_ne _ _ e, va_up_ne _ _ e]; exact hR j w hj hw tw
  rw [if_neg c5, if_neg c5]
  have hno : ¬ (c = 126 ∨ c = 107 ∨ c = 97 ∨ c = 99) := by rintro (z | z | z | z) <;> first | exact c2 z | exact c3 z | exact c4 z | exact c5 z
  have hno3 : ¬ (c = 126 ∨ c = 97 ∨ c = 99) := by rintro (z | z | z) <;> first | exact c2 z | exact c4 z | exact c5 z
  rw [if_neg hno] at hj
  rw [if_neg hno3] at hnd
  by_cases e : j = h - 2
  · subst e; rw [va_up_self, va_up_self, hR (h - 2) w (by omega) hw tw, hR (h - 1) w (by omega) hw tw]
  · rw [va_up_ne _ _ e, va_up_ne _ _ e]; exact hR j w (by omega) hw tw
theorem eRun_ag {T : Nat → Prop} (hT : ∀ w, w < N → po w → T w) (hpo : ∀ w, w < N → (po w ↔ po' w)) (hlk : ∀ p a b, p < np → a < N → b < N → po a → po b → (lk p a b ↔ lk' p a b)) {g : Int32} (hnp : np ≤ 8) :
    ∀ (cs : List (Int32 × Int32)) (h : Nat) (R R' : Nat → Nat → Int32), eOk np cs h → (∀ j w, j < h → w < N → T w → R j w = R' j w) → ∀ j w, j < eHs cs h → w < N → T w → eRun np N po lk g cs h R j w = eRun np N po' lk' g cs h R' j w
  | [], _, _, _, _, hR => hR
  | q :: t, h, R, R', hok, hR => eRun_ag hT hpo hlk hnp t _ _ _ hok.2 (eSt_ag hT hpo hlk hnp hok.1 hR)
end AG
/-- the row of a formula, by what is possible and who is gone -/
noncomputable def aRw (I : zI) (po : Nat → Prop) (gn : Nat) (cs : List (Int32 × Int32)) : Nat → Int32 := eRun (vNp I) (vN I) po (vLike I) (nI gn) cs 0 (fun _ _ => 0) 0
/-- who goes in w, by what is possible and who is gone -/
noncomputable def aGs (I : zI) (po : Nat → Prop) (gn w : Nat) : Nat := bset (sGo (vN I) po (vLike I) gn (vSty I) (vOwn I) w) (vNp I)
def aPo (I : zI) (po : Nat → Prop) (gn : Nat) : Nat → Prop := fun w => po w ∧ aGs I po gn w = aGs I po gn (vTw I)
noncomputable def aGn (I : zI) (po : Nat → Prop) (gn : Nat) : Nat := gn ||| aGs I po gn (vTw I)
theorem aGs_c {I : zI} {po po' : Nat → Prop} (hpo : ∀ w, w < vN I → (po w ↔ po' w)) (gn w : Nat) : aGs I po gn w = aGs I po' gn w :=
  bset_c (fun _ _ => sGo_ag hpo Iff.rfl Iff.rfl (fun _ _ _ => Iff.rfl))
theorem aGs_lt {I : zI} (hB : MB I) (po : Nat → Prop) (gn w : Nat) : aGs I po gn w < 256 := Nat.lt_of_lt_of_le (bset_lt _ _) (pw8 hB.2.1)
theorem or256 {a b : Nat} (ha : a < 256) (hb : b < 256) : a ||| b < 256 := Nat.or_lt_two_pow (n := 8) ha hb
/-! the sayings' codes -/
def vNs (I : zI) : Nat := (I 165 (vB I)).toNatClampNeg
def vSf (I : zI) (i : Nat) : Nat := (I 169 (6 * vB I + i)).toNatClampNeg
def vSl (I : zI) (i : Nat) : Nat := (I 170 (6 * vB I + i)).toNatClampNeg - vSf I i
def vSy (I : zI) (i : Nat) : List (Int32 × Int32) := vCd I (vSf I i) (vSl I i)
def MC (I : zI) : Prop := vNs I ≤ 6 ∧ I 165 (vB I) = nI (vNs I) ∧ ∀ i, i < vNs I → I 169 (6 * vB I + i) = nI (vSf I i) ∧ I 170 (6 * vB I + i) = nI (vSf I i + vSl I i) ∧ vSf I i + vSl I i ≤ 2100 ∧ eGd (vNp I) (vSy I i)
theorem vNs_fr {cs sl : List Nat} {I0 I : zI} (h : zFr cs sl I0 I) (h1 : 28 ∉ sl) (h2 : 165 ∉ cs) : vNs I = vNs I0 := by unfold vNs; rw [vB_fr h h1, h.1 165 h2 (by decide)]
theorem vSf_fr {cs sl : List Nat} {I0 I : zI} (h : zFr cs sl I0 I) (h1 : 28 ∉ sl) (h2 : 169 ∉ cs) (i : Nat) : vSf I i = vSf I0 i := by unfold vSf; rw [vB_fr h h1, h.1 169 h2 (by decide)]
theorem vSl_fr {cs sl : List Nat} {I0 I : zI} (h : zFr cs sl I0 I) (h1 : 28 ∉ sl) (h2 : 169 ∉ cs) (h3 : 170 ∉ cs) (i : Nat) : vSl I i = vSl I0 i := by unfold vSl; rw [vSf_fr h h1 h2, vB_fr h h1, h.1 170 h3 (by decide)]
theorem vSy_fr {cs sl : List Nat} {I0 I : zI} (h : zFr cs sl I0 I) (h1 : 28 ∉ sl) (h2 : 169 ∉ cs) (h3 : 170 ∉ cs) (h4 : 175 ∉ cs) (h5 : 176 ∉ cs) (i : Nat) : vSy I i = vSy I0 i := by
  unfold vSy
  rw [vSl_fr h h1 h2 h3, vSf_fr h h1 h2]
  exact vCd_c (h.1 175 h4 (by decide)) (h.1 176 h5 (by decide)) _ _
theorem MC_fr {cs sl : List Nat} {I0 I : zI} (h : zFr cs sl I0 I) (h1 : 28 ∉ sl) (h2 : 169 ∉ cs) (h3 : 170 ∉ cs) (h4 : 175 ∉ cs) (h5 : 176 ∉ cs) (h6 : 165 ∉ cs) (h7 : 163 ∉ cs) (hm : MC I0) : MC I := by
  unfold MC
  rw [vNs_fr h h1 h6, vB_fr h h1, h.1 165 h6 (by decide), h.1 169 h2 (by decide), h.1 170 h3 (by decide), vNp_fr h h1 h7]
  refine ⟨hm.1, hm.2.1, fun i hi => ?_⟩
  rw [vSf_fr h h1 h2, vSl_fr h h1 h2 h3, vSy_fr h h1 h2 h3 h4 h5]
  exact hm.2.2 i hi
