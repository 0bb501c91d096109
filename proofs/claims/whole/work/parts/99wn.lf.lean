/-! ===== the world at the law's entry, 2 ===== -/
theorem lw_str {s : State} {b : Nat} (hgv : (Jvm.Cond.and given_1 narrow_1).before #[Value.ref b] s = true) : ∃ adK adV : Nat → Nat, vk_S 2 [136, 10] zbyt adK adV (fun q => s.heap.size ≤ q) s s.heap ∧ ∀ i : Nat, i < 2 → (zTm i).eval #[Value.ref b] s none [] s = some (.ref (adK i)) := by
  have hs := flat_of_before _ hgv
  refine vk_Sof (N := 2) (tm := zTm) (len := [136, 10]) (byt := zbyt) (A := fun q => s.heap.size ≤ q) (by decide) (fun i hi => hs _ (zel_2 i hi).1) (fun i hi => hs _ (zel_2 i hi).2.1) (fun i hi => hs _ (zel_2 i hi).2.2.1) (fun i hi => hs _ (zel_2 i hi).2.2.2) (fun i hi j hj => hs _ (zel_all i hi j hj)) (fun i j hi hj hij => ?_) (fun a ha => Nat.not_le.mpr ha)
  rcases (show i = 0 ∧ j = 1 ∨ i = 1 ∧ j = 0 by omega) with ⟨rfl, rfl⟩ | ⟨rfl, rfl⟩
  · exact Or.inl (hs _ zel_3)
  · exact Or.inr (hs _ zel_3)
set_option maxRecDepth 100000 in
theorem lw_world {p : Program} {s : State} {m : MethodId} {meth : Method} {c : Code} {b n : Nat} {xs : Nat → Int32} (C : lw_At p s m meth c b n xs) : ∃ G : zG, zK G s ∧ G.1 = s.heap.size ∧ G.2.2.2.1 2 = b := by
  obtain ⟨-, -, -, -, -, hts, -, -, -, hgv⟩ := C
  have htb : ∀ w ∈ zTb, w.before #[Value.ref b] s = true := fun w hw => hts w (List.mem_filter.mp hw).1
  have hs := flat_of_before _ hgv
  have hcl : ∀ c : Nat, ∃ q : ClassId × (Nat → Nat), c < 12 → u_Kn s (zRR c) (zTT c) (znf c) q.1 q.2 := by
    intro c
    by_cases hc : c < 12
    · obtain ⟨cC, iS, h⟩ := u_known (C := zRR c) (T := zTT c) (N := znf c) (n := znf c) htb (zin c hc) (htb _ (zinst c hc))
      exact ⟨(cC, iS), fun _ => h⟩
    · exact ⟨(0, fun _ => 0), fun h => absurd h hc⟩
  obtain ⟨f, hf⟩ := Classical.axiomOfChoice hcl
  obtain ⟨a0, k0, p0, e0, g0, r0⟩ := Cond.arrayClass_spec (htb _ zz_int)
  obtain ⟨a1, k1, p1, e1, g1, r1⟩ := Cond.arrayClass_spec (htb _ zz_long)
  obtain ⟨a2, k2, p2, e2, g2, r2⟩ := Cond.arrayClass_spec (htb _ zz_byte)
  obtain ⟨a3, k3, p3, e3, g3, r3⟩ := Cond.arrayClass_spec (htb _ zz_boolean)
  have w4 : (Cond.arrayOver (.array .int)).before #[Value.ref b] s = true := hts _ (List.mem_append_right _ (by decide +kernel))
  have w5 : (Cond.arrayOver (.object "NinetyNights$Scene")).before #[Value.ref b] s = true := hts _ (List.mem_append_right _ (by decide +kernel))
  obtain ⟨p4, a4, k4, c4, -, g4, r4, e4⟩ := arrayOverA_spec w4
  obtain ⟨p5, a5, k5, c5, -, g5, r5, e5⟩ := Cond.arrayOver_spec w5
  obtain ⟨adK, adV, hK, hev⟩ := lw_str hgv
  refine ⟨(s.heap.size, (fun c => (f c).1, fun c => (f c).2), fun k => if k = 100 then a0 else if k = 101 then a1 else if k = 102 then a2 else if k = 103 then a3 else if k = 104 then a4 else a5, fun i => if i = 2 then b else adK i, adV), ⟨⟨fun c q hq => ?_, fun k q hq => ?_⟩, fun w hw => ?_, ⟨⟨fun i hi => ?_, fun i j hi hj e => ?_⟩, ?_, ?_, ?_, ?_⟩, va_AO.of w5, w4⟩, rfl, rfl⟩
  · have hc : c < 12 := (List.getElem?_eq_some_iff.mp hq).1
    rw [zcl hc] at hq
    cases hq
    exact hf c hc
  · have hk : k < 6 := (List.getElem?_eq_some_iff.mp hq).1
    match k, hk, hq with
    | 0, _, hq => cases hq; exact ⟨zAr_of g0 r0, e0⟩
    | 1, _, hq => cases hq; exact ⟨zAr_of g1 r1, e1⟩
    | 2, _, hq => cases hq; exact ⟨zAr_of g2 r2, e2⟩
    | 3, _, hq => cases hq; exact ⟨zAr_of g3 r3, e3⟩
    | 4, _, hq => cases hq; exact ⟨zAr_of g4 r4, e4⟩
    | 5, _, hq => cases hq; exact ⟨zAr_of g5 r5, k5, p5, g5, r5, c5, e5⟩
  · have h1 := hts w (List.mem_filter.mp hw).1
    have h2 := (List.mem_filter.mp hw).2
    cases w <;> first | exact va_Nw.of rfl h1 | exact absurd h2 (by simp [zIsN])
  · have e : (if i = 2 then b else adK i) = adK i := if_neg (by omega)
    show va_O _ (if i = 2 then b else adK i) _ _ _ ∧ va_OF _ _ _ _ (if i = 2 then b else adK i) _ _ _ ∧ va_OF _ _ _ _ (if i = 2 then b else adK i) _ _ _ ∧ _
    rw [e]
    exact hK.1 i hi
  · have ei : (if i = 2 then b else adK i) = adK i := if_neg (by omega)
    have ej : (if j = 2 then b else adK j) = adK j := if_neg (by omega)
    have e : (if i = 2 then b else adK i) = (if j = 2 then b else adK j) := e
    rw [ei, ej] at e
    exact hK.2 i j hi hj e
  · exact vk_R.of (hts _ (List.mem_append_right _ (by decide +kernel))) (hev 0 (by decide))
  · exact vk_R.of (hts _ (List.mem_append_right _ (by decide +kernel))) (hev 1 (by decide))
  · exact va_Zof (hts _ (List.mem_append_right _ (by decide +kernel))) (hts _ (List.mem_append_right _ (by decide +kernel))) (va_eqt (hs _ zel_4)) (fun a ha => Nat.not_le.mpr ha)
  · exact va_Zqof (hts _ (List.mem_append_right _ (by decide +kernel))) (hts _ (List.mem_append_right _ (by decide +kernel))) (hs _ zel_5) (fun a ha => Nat.not_le.mpr ha)
