/-! ===== the machine comes to what the descent comes to ===== -/
section DB
variable {T : Nat → Int32} {n : Nat} {nm : Int64 → Option Nat} {lim : Nat}
/-- what a part's answer says of the machine that stands at M -/
def rPt (T : Nat → Int32) (n : Nat) (nm : Int64 → Option Nat) (lim t : Nat) (M : mS) (S : List Ent) (w : Nat) (cb : List (Int32 × Int32)) : Rs → Prop
  | .inl x => mEv T n nm lim M (.inl x)
  | .inr (e, u, c) => u ≤ lim ∧ ((rkH (tK T n e) = 4 ∧ t ≤ 3) → mEv T n nm lim M (mBad T n e)) ∧ (¬ (rkH (tK T n e) = 4 ∧ t ≤ 3) → rkH (tK T n e) ≤ t ∧ ∀ r, mEv T n nm lim (mT false S w e u (cb ++ cMp c)) r → mEv T n nm lim M r)
def rUn (T : Nat → Int32) (n : Nat) (nm : Int64 → Option Nat) (lim : Nat) (M : mS) (S : List Ent) (w : Nat) (cb : List (Int32 × Int32)) : Rs → Prop
  | .inl x => mEv T n nm lim M (.inl x)
  | .inr (e, u, c) => u ≤ lim ∧ ∀ r, mEv T n nm lim (mT false S w e u (cb ++ cMp c)) r → mEv T n nm lim M r
theorem rPt_tr {t w : Nat} {M M2 : mS} {S : List Ent} {cb : List (Int32 × Int32)} {res : Rs} (h : rPt T n nm lim t M2 S w cb res) (hm : ∀ r, mEv T n nm lim M2 r → mEv T n nm lim M r) : rPt T n nm lim t M S w cb res := by
  match res with
  | .inl x => exact hm _ h
  | .inr (e, u, c) => exact ⟨h.1, fun z => hm _ (h.2.1 z), fun z => ⟨(h.2.2 z).1, fun r y => hm _ ((h.2.2 z).2 r y)⟩⟩
def cPt (T : Nat → Int32) (n : Nat) (nm : Int64 → Option Nat) (lim f : Nat) : Prop := ∀ t w e u res, dR T n nm lim f (dPt t w e u) = some res → ∀ S c, mt S t → w ≤ 7 → u ≤ lim → rPt T n nm lim t (mT true S w e u c) S w c res
/-- what waits on the pile at the head of the loop -/
def lpP (T : Nat → Int32) (n : Nat) (t hi w e : Nat) (c1 : Cd) (S : List Ent) (cb : List (Int32 × Int32)) (St : List Ent) (w' : Nat) (c0 : List (Int32 × Int32)) : Prop :=
  (St = S ∧ hi = 6 ∧ w' = w ∧ c0 = cb ++ cMp c1) ∨ ∃ p : Ent, St = p :: S ∧ p.1 ≤ 6 ∧ t < p.1 ∧ w = (if p.1 = 3 then w' - 1 else w') ∧ hi = (if p.1 = 3 ∨ p.1 = 4 then 2 else p.1) ∧ rkH (tK T n e) ≤ p.1 ∧ c0 ++ [(nI p.2.1, 0)] = cb ++ cMp c1
def cLp (T : Nat → Int32) (n : Nat) (nm : Int64 → Option Nat) (lim f : Nat) : Prop := ∀ t hi w e u c1 res, dR T n nm lim f (dLp t hi w e u c1) = some res → ∀ S cb St w' c0, mt S t → t ≤ 6 → w ≤ 7 → u ≤ lim → lpP T n t hi w e c1 S cb St w' c0 → rPt T n nm lim t (mT false St w' e u c0) S w cb res
def cUn (T : Nat → Int32) (n : Nat) (nm : Int64 → Option Nat) (lim f : Nat) : Prop := ∀ w e u res, dR T n nm lim f (dUn w e u) = some res → ∀ S c, S ≠ [] → w ≤ 7 → u ≤ lim → ¬ ((eTop S ≤ 3 ∨ 7 ≤ eTop S) ∧ tK T n e = 267 ∧ w ≤ 6) → rUn T n nm lim (mT true S w e u c) S w c res
theorem dTh_s {a : Option Rs} {g : Nat → Nat → Cd → Option Rs} {res : Rs} (h : dTh a g = some res) : (∃ x, a = some (.inl x) ∧ res = .inl x) ∨ ∃ e u c, a = some (rO e u c) ∧ g e u c = some res := by
  match a with
  | none => cases h
  | some (.inl x) => exact Or.inl ⟨x, rfl, (Option.some.inj h).symm⟩
  | some (.inr (e, u, c)) => exact Or.inr ⟨e, u, c, rfl, h⟩
theorem dLp_0 {f t hi w e u : Nat} {c : Cd} {res : Rs} (h : dR T n nm lim f (dLp t hi w e u c) = some res) (hn : ¬ (t < rkH (tK T n e) ∧ rkH (tK T n e) ≤ hi)) : res = rO e u c := by
  cases f with
  | zero => cases h
  | succ f =>
    have h : @ite _ (t < rkH (tK T n e) ∧ rkH (tK T n e) ≤ hi) (Classical.propDecidable _) _ (some (rO e u c)) = some res := h
    rw [if_neg hn] at h
    exact (Option.some.inj h).symm
theorem rkH_3 (k : Nat) : rkH k ≠ 3 := by
  intro h
  have := rkH_or (k := k) (by omega)
  omega
theorem cPt_s {f : Nat} (h1 : cPt T n nm lim f) (h2 : cLp T n nm lim f) (h3 : cUn T n nm lim f) : cPt T n nm lim (f + 1) := by
  intro t w e u res hr S c hm hw hu
  obtain ⟨q, S0, rfl⟩ : ∃ q S0, S = q :: S0 := by
    cases S with
    | nil => exact absurd rfl hm.1
    | cons q S0 => exact ⟨q, S0, rfl⟩
  have hm2 := hm.2
  have ht : t ≤ 6 := by omega
  have hr : @ite _ (tK T n e = 267 ∧ t ≤ 3 ∧ w ≤ 6) (Classical.propDecidable _) (dTh (dR T n nm lim f (dPt 2 (w + 1) (tE T n e) u)) (fun e' u' c => dR T n nm lim f (dLp t 2 w e' u' (c ++ [(267, 0)])))) (dTh (dR T n nm lim f (dUn w e u)) (fun e' u' c => dR T n nm lim f (dLp t 6 w e' u' c))) = some res := hr
  by_cases hn : tK T n e = 267 ∧ t ≤ 3 ∧ w ≤ 6
  · rw [if_pos hn] at hr
    have hs : uStep T n nm lim (q :: S0) w e u c = mT true ((3, 126, 0) :: q :: S0) (w + 1) (tE T n e) u c := by
      unfold uStep
      rw [if_pos ⟨by omega, hn.1⟩, if_neg (by omega)]
    have hM : ∀ r, mEv T n nm lim (mT true ((3, 126, 0) :: q :: S0) (w + 1) (tE T n e) u c) r → mEv T n nm lim (mT true (q :: S0) w e u c) r := fun r y => mEv_u (by rw [hs]; exact y)
    have mt2 : mt ((3, 126, (0 : Int32)) :: q :: S0) 2 := ⟨List.cons_ne_nil _ _, Or.inr (Or.inl ⟨rfl, Or.inr rfl⟩)⟩
    rcases dTh_s hr with ⟨x, a1, a2⟩ | ⟨e1, u1, c1, a1, a2⟩
    · subst a2
      exact hM _ (h1 2 (w + 1) (tE T n e) u _ a1 _ c mt2 (by omega) hu)
    · have b := h1 2 (w + 1) (tE T n e) u _ a1 _ c mt2 (by omega) hu
      obtain ⟨b1, b2, b3⟩ := b
      by_cases hx : rkH (tK T n e1) = 4
      · have := dLp_0 a2 (fun z => by omega)
        subst this
        exact ⟨b1, fun _ => hM _ (b2 ⟨hx, by decide⟩), fun z => absurd ⟨hx, hn.2.1⟩ z⟩
      · obtain ⟨b4, b5⟩ := b3 (fun z => hx z.1)
        refine rPt_tr (h2 t 2 w e1 u1 _ res a2 (q :: S0) c ((3, 126, 0) :: q :: S0) (w + 1) (c ++ cMp c1) hm ht hw b1 (Or.inr ⟨(3, 126, 0), rfl, by decide, ?_, ?_, rfl, ?_, ?_⟩)) (fun r y => hM _ (b5 r y))
        · show t < 3; omega
        · rw [if_pos rfl]; omega
        · show _ ≤ 3; omega
        · rw [cMp_app, ← List.append_assoc]; rfl
  · rw [if_neg hn] at hr
    have hn' : ¬ ((eTop (q :: S0) ≤ 3 ∨ 7 ≤ eTop (q :: S0)) ∧ tK T n e = 267 ∧ w ≤ 6) := fun z => hn ⟨z.2.1, by omega, z.2.2⟩
    rcases dTh_s hr with ⟨x, a1, a2⟩ | ⟨e1, u1, c1, a1, a2⟩
    · subst a2
      exact h3 w e u _ a1 _ c (List.cons_ne_nil _ _) hw hu hn'
    · obtain ⟨b1, b2⟩ := h3 w e u _ a1 _ c (List.cons_ne_nil _ _) hw hu hn'
      exact rPt_tr (h2 t 6 w e1 u1 c1 res a2 (q :: S0) c (q :: S0) w (c ++ cMp c1) hm ht hw b1 (Or.inl ⟨rfl, rfl, rfl, rfl⟩)) b2
theorem cLp_s {f : Nat} (h1 : cPt T n nm lim f) (h2 : cLp T n nm lim f) : cLp T n nm lim (f + 1) := by
  intro t hi w e u c1 res hr S cb St w' c0 hm ht hw hu hp
  obtain ⟨q, S0, rfl⟩ : ∃ q S0, S = q :: S0 := by
    cases S with
    | nil => exact absurd rfl hm.1
    | cons q S0 => exact ⟨q, S0, rfl⟩
  have h7 := rkH_lt (tK T n e)
  have h3 := rkH_3 (tK T n e)
  by_cases hc : t < rkH (tK T n e) ∧ rkH (tK T n e) ≤ hi
  · have hr : @ite _ (t < rkH (tK T n e) ∧ rkH (tK T n e) ≤ hi) (Classical.propDecidable _) (dTh (dR T n nm lim f (dPt (rkH (tK T n e)) w (tE T n e) u)) (fun e' u' c' => dR T n nm lim f (dLp t (if rkH (tK T n e) = 4 then 2 else rkH (tK T n e)) w e' u' (c1 ++ c' ++ [(tK T n e, 0)])))) (some (rO e u c1)) = some res := hr
    rw [if_pos hc] at hr
    have hM1 : ∀ r, mEv T n nm lim (mT false (q :: S0) w e u (cb ++ cMp c1)) r → mEv T n nm lim (mT false St w' e u c0) r := by
      intro r y
      rcases hp with ⟨p1, p2, p3, p4⟩ | ⟨p, p1, p2, p3, p4, p5, p6, p7⟩
      · rw [p1, p3, p4]; exact y
      · subst p1
        refine mEv_b ?_
        rw [b_pop p2 p6 (fun z => ?_) p4, p7]
        · exact mEv_bi y
        · have : ¬ (p.1 = 3 ∨ p.1 = 4) := fun x => by rw [if_pos x] at p5; omega
          omega
    have hM : ∀ r, mEv T n nm lim (mT true ((rkH (tK T n e), bChr (rkH (tK T n e)) (tK T n e), 0) :: q :: S0) w (tE T n e) u (cb ++ cMp c1)) r → mEv T n nm lim (mT false St w' e u c0) r :=
      fun r y => hM1 r (mEv_b (by rw [b_push hm hc.1]; exact y))
    have ho := rkH_or (k := tK T n e) (by omega)
    have mt2 : mt ((rkH (tK T n e), bChr (rkH (tK T n e)) (tK T n e), (0 : Int32)) :: q :: S0) (rkH (tK T n e)) := by
      refine ⟨List.cons_ne_nil _ _, ?_⟩
      show _ ∨ (_ ∧ (rkH (tK T n e) = 2 ∨ rkH (tK T n e) = 3)) ∨ (_ ∧ rkH (tK T n e) = rkH (tK T n e))
      omega
    rcases dTh_s hr with ⟨x, a1, a2⟩ | ⟨e1, u1, c2, a1, a2⟩
    · subst a2
      exact hM _ (h1 _ w (tE T n e) u _ a1 _ _ mt2 hw hu)
    · obtain ⟨b1, b2, b3⟩ := h1 _ w (tE T n e) u _ a1 _ (cb ++ cMp c1) mt2 hw hu
      by_cases hx : rkH (tK T n e1) = 4 ∧ rkH (tK T n e) ≤ 3
      · have := dLp_0 a2 (fun z => by have := z.2; rw [if_neg (by omega)] at this; omega)
        subst this
        exact ⟨b1, fun _ => hM _ (b2 hx), fun z => absurd ⟨hx.1, by omega⟩ z⟩
      · obtain ⟨b4, b5⟩ := b3 hx
        refine rPt_tr (h2 t _ w e1 u1 _ res a2 (q :: S0) cb ((rkH (tK T n e), bChr (rkH (tK T n e)) (tK T n e), 0) :: q :: S0) w ((cb ++ cMp c1) ++ cMp c2) hm ht hw b1 (Or.inr ⟨_, rfl, by show rkH (tK T n e) ≤ 6; omega, hc.1, ?_, ?_, b4, ?_⟩)) (fun r y => hM _ (b5 r y))
        · rw [if_neg h3]
        · by_cases h4 : rkH (tK T n e) = 4
          · rw [if_pos h4, if_pos (Or.inr h4)]
          · rw [if_neg h4, if_neg (show ¬ (rkH (tK T n e) = 3 ∨ rkH (tK T n e) = 4) by omega)]
        · rw [cMp_app, cMp_app, List.append_assoc, List.append_assoc, List.append_assoc]
          show _ = cb ++ (cMp c1 ++ (cMp c2 ++ [(nI (mcK (tK T n e)), 0)]))
          rw [mcK_j (by omega)]
  · have := dLp_0 hr hc
    subst this
    refine ⟨hu, fun hx => ?_, fun hx => ?_⟩
    · rcases hp with ⟨p1, p2, p3, p4⟩ | ⟨p, p1, p2, p3, p4, p5, p6, p7⟩
      · omega
      · have h34 : p.1 = 4 := by
          by_cases x : p.1 = 3 ∨ p.1 = 4
          · omega
          · rw [if_neg x] at p5; omega
        subst p1
        refine mEv_b ?_
        unfold bStep
        rw [if_pos ⟨hx.1, Or.inl h34⟩]
        exact mEv_f _ _
    · rcases hp with ⟨p1, p2, p3, p4⟩ | ⟨p, p1, p2, p3, p4, p5, p6, p7⟩
      · refine ⟨by omega, fun r y => ?_⟩
        rw [p1, p3, p4]; exact y
      · have hle : rkH (tK T n e) ≤ t := by
          by_cases x : p.1 = 3 ∨ p.1 = 4
          · rw [if_pos x] at p5; omega
          · rw [if_neg x] at p5; omega
        refine ⟨hle, fun r y => ?_⟩
        subst p1
        refine mEv_b ?_
        rw [b_pop p2 p6 (fun z => by omega) p4, p7]
        exact mEv_bi y
theorem br_ok {f k w e u : Nat} {v : Int32} {res : Rs} (h1 : cPt T n nm lim f) (hk : uH k ≠ 0) (hr : dBr T n k v (dR T n nm lim f (dPt 0 (w + 1) e u)) = some res) {S : List Ent} {c : List (Int32 × Int32)} (hw : w ≤ 6) (hu : u ≤ lim) : rUn T n nm lim (mT true ((7, uH k, v) :: S) (w + 1) e u c) S w c res := by
  have mt0 : mt ((7, uH k, v) :: S) 0 := ⟨List.cons_ne_nil _ _, Or.inl ⟨rfl, Nat.le_refl _⟩⟩
  rcases dTh_s hr with ⟨x, a1, a2⟩ | ⟨e1, u1, c1, a1, a2⟩
  · subst a2
    exact h1 0 (w + 1) e u _ a1 _ c mt0 (by omega) hu
  · obtain ⟨b1, b2, b3⟩ := h1 0 (w + 1) e u _ a1 _ c mt0 (by omega) hu
    have a2 := Option.some.inj a2
    by_cases hx : rkH (tK T n e1) = 4
    · have : tK T n e1 ≠ 41 := fun z => by rw [z] at hx; exact absurd hx (by decide)
      rw [if_neg this] at a2
      subst a2
      exact b2 ⟨hx, by decide⟩
    · obtain ⟨b4, b5⟩ := b3 (fun z => hx z.1)
      have r0 : rkH (tK T n e1) = 0 := by omega
      have eb : bStep T n ((7, uH k, v) :: S) (w + 1) e1 u1 (c ++ cMp c1) = (@ite _ (tK T n e1 = 41) (Classical.propDecidable _) (mT false S w (tE T n e1) u1 (if uH k = 40 then c ++ cMp c1 else (c ++ cMp c1) ++ [(nI (uH k), v)])) (mBad T n e1)) := by
        have ep : bPop (rkH (tK T n e1)) ((7, uH k, v) :: S) (w + 1) (c ++ cMp c1) = ((7, uH k, v) :: S, w + 1, c ++ cMp c1) := if_neg (fun z => absurd z.1 (by show ¬ 7 ≤ 6; decide))
        unfold bStep
        rw [if_neg (fun z => hx z.1), ep]
        unfold bRest
        rw [if_neg (by omega), bEnd_c, if_pos rfl, Nat.add_sub_cancel]
      by_cases h41 : tK T n e1 = 41
      · rw [if_pos h41] at a2 eb
        subst a2
        refine ⟨b1, fun r y => b5 r (mEv_b ?_)⟩
        rw [eb]
        by_cases h40 : k = 40
        · rw [if_pos h40] at y
          rw [if_pos (uH_40.mpr h40)]; exact y
        · rw [if_neg h40, cMp_app, ← List.append_assoc] at y
          rw [if_neg (fun z => h40 (uH_40.mp z))]
          have : cMp [(k, v)] = [(nI (uH k), v)] := by show [(nI (mcK k), v)] = _; rw [mcK_u hk]
          rw [this] at y
          exact y
      · rw [if_neg h41] at a2 eb
        subst a2
        refine b5 _ (mEv_b ?_)
        rw [eb]
        exact mEv_f _ _
theorem con_ok {f k w e u : Nat} {v : Int32} {res : Rs} (h1 : cPt T n nm lim f) (hk : uH k ≠ 0) (hr : dCon T n k v w e u (dR T n nm lim f) = some res) {S : List Ent} {c : List (Int32 × Int32)} (hw : uOp (uH k) → w ≤ 6) (hu : u ≤ lim) {M : mS} (hM : ∀ r, mEv T n nm lim (uCon T n (uH k) v S w e u c) r → mEv T n nm lim M r) : rUn T n nm lim M S w c res := by
  have tr : ∀ {M2}, rUn T n nm lim M2 S w c res → (∀ r, mEv T n nm lim M2 r → mEv T n nm lim M r) → rUn T n nm lim M S w c res := by
    intro M2 h hm
    match res with
    | .inl x => exact hm _ h
    | .inr (e, u, c) => exact ⟨h.1, fun r y => hm _ (h.2 r y)⟩
  unfold dCon at hr
  unfold uCon at hM
  by_cases ho : uOp (uH k)
  · rw [if_pos ho] at hr hM
    by_cases h40 : k = 40
    · rw [if_pos h40] at hr
      rw [if_pos (uH_40.mpr h40)] at hM
      exact tr (br_ok h1 hk hr (hw ho) hu) hM
    · rw [if_neg h40] at hr
      rw [if_neg (fun z => h40 (uH_40.mp z))] at hM
      by_cases hb : tK T n e = 40
      · rw [if_pos hb] at hr hM
        exact tr (br_ok h1 hk hr (hw ho) hu) hM
      · rw [if_neg hb] at hr hM
        have := Option.some.inj hr
        subst this
        exact hM _ (mEv_f _ _)
  · rw [if_neg ho] at hr hM
    have := Option.some.inj hr
    subst this
    refine ⟨hu, fun r y => hM r ?_⟩
    have : cMp [(k, v)] = [(nI (uH k), v)] := by show [(nI (mcK k), v)] = _; rw [mcK_u hk]
    rw [this] at y
    exact y
theorem cUn_s {f : Nat} (h1 : cPt T n nm lim f) : cUn T n nm lim (f + 1) := by
  intro w e u res hr S c hS hw hu hn
  obtain ⟨q, S0, rfl⟩ : ∃ q S0, S = q :: S0 := by
    cases S with
    | nil => exact absurd rfl hS
    | cons q S0 => exact ⟨q, S0, rfl⟩
  have hr : @ite _ (uH (tK T n e) = 0 ∨ lim ≤ u ∨ (uOp (uH (tK T n e)) ∧ 6 < w)) (Classical.propDecidable _) (some (dBad T n e)) (@ite _ (uNm (uH (tK T n e))) (Classical.propDecidable _) (@ite _ (tK T n (tE T n e) = 273) (Classical.propDecidable _) (match nm (tV T n (tE T n e)) with | none => some (rF 4 (tA T n (tE T n e))) | some k => dCon T n (tK T n e) (nI k) w (tE T n (tE T n e)) (u + 1) (dR T n nm lim f)) (some (dBad T n (tE T n e)))) (dCon T n (tK T n e) (if tK T n e = 274 then tN T n e else 0) w (tE T n e) (u + 1) (dR T n nm lim f))) = some res := hr
  have bad : ∀ e2, res = dBad T n e2 → mEv T n nm lim (mT true (q :: S0) w e u c) (mBad T n e2) → rUn T n nm lim (mT true (q :: S0) w e u c) (q :: S0) w c res := by
    intro e2 h y
    subst h
    exact y
  by_cases hnt : (eTop (q :: S0) ≤ 3 ∨ 7 ≤ eTop (q :: S0)) ∧ tK T n e = 267
  · have h7 : w = 7 := by
      by_cases x : w ≤ 6
      · exact absurd ⟨hnt.1, hnt.2, x⟩ hn
      · omega
    rw [if_pos (Or.inl (by rw [hnt.2]; rfl))] at hr
    refine bad e (Option.some.inj hr).symm (mEv_u ?_)
    unfold uStep
    rw [if_pos hnt, if_pos h7]
    exact mEv_f _ _
  · by_cases hb : uH (tK T n e) = 0 ∨ lim ≤ u ∨ (uOp (uH (tK T n e)) ∧ 6 < w)
    · rw [if_pos hb] at hr
      refine bad e (Option.some.inj hr).symm (mEv_u ?_)
      unfold uStep
      rw [if_neg hnt, if_pos]
      · exact mEv_f _ _
      · rcases hb with x | x | x
        · exact Or.inl x
        · exact Or.inr (Or.inl (by omega))
        · exact Or.inr (Or.inr ⟨x.1, by omega⟩)
    · rw [if_neg hb] at hr
      have hb' : ¬ (uH (tK T n e) = 0 ∨ u = lim ∨ (uOp (uH (tK T n e)) ∧ w = 7)) := by
        rintro (x | x | x)
        · exact hb (Or.inl x)
        · exact hb (Or.inr (Or.inl (by omega)))
        · exact hb (Or.inr (Or.inr ⟨x.1, by omega⟩))
      have hk : uH (tK T n e) ≠ 0 := fun x => hb (Or.inl x)
      have hul : u + 1 ≤ lim := by
        by_cases x : lim ≤ u
        · exact absurd (Or.inr (Or.inl x)) hb
        · omega
      have how : uOp (uH (tK T n e)) → w ≤ 6 := fun x => by
        by_cases y : 6 < w
        · exact absurd (Or.inr (Or.inr ⟨x, y⟩)) hb
        · omega
      by_cases hnm : uNm (uH (tK T n e))
      · rw [if_pos hnm] at hr
        have hs : uStep T n nm lim (q :: S0) w e u c = uNam T n nm (uH (tK T n e)) (q :: S0) w (tE T n e) (u + 1) c := by
          unfold uStep
          rw [if_neg hnt, if_neg hb', if_pos hnm]
        unfold uNam at hs
        by_cases h273 : tK T n (tE T n e) = 273
        · rw [if_pos h273] at hr hs
          cases ho : nm (tV T n (tE T n e)) with
          | none =>
            rw [ho] at hr hs
            have := Option.some.inj hr
            subst this
            exact mEv_u (by rw [hs]; exact mEv_f _ _)
          | some k =>
            rw [ho] at hr hs
            exact con_ok h1 hk hr how hul (fun r y => mEv_u (by rw [hs]; exact y))
        · rw [if_neg h273] at hr hs
          refine bad _ (Option.some.inj hr).symm (mEv_u ?_)
          rw [hs]
          exact mEv_f _ _
      · rw [if_neg hnm] at hr
        have hs : uStep T n nm lim (q :: S0) w e u c = uCon T n (uH (tK T n e)) (if tK T n e = 274 then tN T n e else 0) (q :: S0) w (tE T n e) (u + 1) c := by
          unfold uStep
          rw [if_neg hnt, if_neg hb', if_neg hnm]
          by_cases x : tK T n e = 274
          · rw [if_pos x, if_pos (uH_110.mpr x)]
          · rw [if_neg x, if_neg (fun y => x (uH_110.mp y))]
        exact con_ok h1 hk hr how hul (fun r y => mEv_u (by rw [hs]; exact y))
theorem desc_ok : ∀ f, cPt T n nm lim f ∧ cLp T n nm lim f ∧ cUn T n nm lim f
  | 0 => ⟨fun _ _ _ _ _ h => (by cases h), fun _ _ _ _ _ _ _ h => (by cases h), fun _ _ _ _ h => (by cases h)⟩
  | f + 1 => by
    obtain ⟨h1, h2, h3⟩ := desc_ok f
    exact ⟨cPt_s h1 h2 h3, cLp_s h1 h2, cUn_s h1⟩
/-- the whole: what the machine comes to -/
theorem desc_top {f e u : Nat} {res : Rs} (hu : u ≤ lim) (h : dR T n nm lim f (dPt 0 0 e u) = some res) : match res with
    | .inl x => mEv T n nm lim (mT true [(8, 0, 0)] 0 e u []) (.inl x)
    | .inr (e', u', c') => u' ≤ lim ∧ (rkH (tK T n e') = 4 → mEv T n nm lim (mT true [(8, 0, 0)] 0 e u []) (mBad T n e')) ∧ (rkH (tK T n e') ≠ 4 → rkH (tK T n e') = 0 ∧ mEv T n nm lim (mT true [(8, 0, 0)] 0 e u []) (mT false [] 0 e' u' (cMp c'))) := by
  have key := (desc_ok f).1 0 0 e u res h [(8, 0, 0)] [] ⟨List.cons_ne_nil _ _, Or.inl ⟨rfl, by decide⟩⟩ (by decide) hu
  match res with
  | .inl x => exact key
  | .inr (e', u', c') =>
    obtain ⟨b1, b2, b3⟩ := key
    refine ⟨b1, fun z => b2 ⟨z, by decide⟩, fun z => ?_⟩
    obtain ⟨b4, b5⟩ := b3 (fun y => z y.1)
    refine ⟨by omega, b5 _ (mEv_b ?_)⟩
    have ep : bPop (rkH (tK T n e')) [(8, 0, (0 : Int32))] 0 ([] ++ cMp c') = ([(8, 0, 0)], 0, cMp c') := if_neg (fun x => absurd x.1 (by show ¬ 8 ≤ 6; decide))
    unfold bStep
    rw [if_neg (fun y => z y.1), ep]
    unfold bRest
    rw [if_neg (by omega), bEnd_c, if_neg (by decide)]
    exact mEv_d _ _ _ _
end DB
