/-! ===== the model: blind, law ===== -/
theorem see_c : ∀ s, s < 256 → ∀ b, b < 8 → (nI s &&& (((1 : Int32) <<< (nI b &&& 31) : Int32) ^^^ (-1) : Int32) : Int32) = nI (s &&& (255 - 2 ^ b)) := by decide +kernel
section IM2
variable {rb : Nat} {I I' : zI} {L L' : zL} {A : Ai}
theorem iM_sl {sl : List Nat} (h : iM rb I L A) (hf : zFr [] sl I I') (h29 : 29 ∉ sl) (h30 : 30 ∉ sl) (h31 : 31 ∉ sl) (h32 : 32 ∉ sl) (hL : ∀ k, L' 174 k = L 174 k) : iM rb I' L' A := by
  have e : ∀ a, a ≠ 160 → I' a = I a := fun a h => hf.1 a (by simp) h
  unfold iM
  rw [hf.2 29 h29, hf.2 30 h30, hf.2 31 h31, hf.2 32 h32, e 163 (by decide), e 167 (by decide), e 164 (by decide), e 165 (by decide), e 166 (by decide), e 172 (by decide), e 171 (by decide), e 168 (by decide), e 173 (by decide), e 169 (by decide), e 170 (by decide)]
  obtain ⟨m1, m2, m3, m4, m5, m6, m7, m8, m9, m10, m11⟩ := h
  refine ⟨m1, m2, m3, m4, m5, m6, m7, m8, fun k hk => by rw [hL]; exact m9 k hk, m10, fun i hi => ?_⟩
  rw [vCd_c (e 175 (by decide)) (e 176 (by decide))]
  exact m11 i hi
theorem iM_go (h : iM rb I L A) (hf : zFr [] gS I I') (hL : zLn L L') : iM rb I' L' A := iM_sl h hf (by decide) (by decide) (by decide) (by decide) (fun k => hL 174 k (fun z => absurd z.1 (by decide)))
theorem iM_ft {k q : Nat} (h : iM rb I L A) : iM rb (pFt I k q) L A := iM_sl h (pFt_fr I k q) (by decide) (by decide) (by decide) (by decide) (fun _ => rfl)
theorem iM_hR {T : Nat → Int32} {n e : Nat} (h : iM rb I L A) : hR T n e I L = @ite _ (tK T n e = 273) (Classical.propDecidable _) (aNm A (tV T n e)) none := by
  unfold hR
  rw [iM_nm h]
/-- a does not see b any more -/
def aBl (A : Ai) (a b : Nat) : Ai := aU (aU A (10 + a) (A.1 (10 + a) &&& (255 - 2 ^ b))) 2 (A.1 2 + 1)
theorem iM_bl {a b : Nat} (h : iM rb I L A) (ha : a < A.1 0) (hb : A.1 2 < 30) : iM rb (zuI (zuI I 168 (8 * rb + a) (nI (A.1 (10 + a) &&& (255 - 2 ^ b)))) 164 rb (nI (A.1 2 + 1))) L (aBl A a b) ∧ iFr rb I L (zuI (zuI I 168 (8 * rb + a) (nI (A.1 (10 + a) &&& (255 - 2 ^ b)))) 164 rb (nI (A.1 2 + 1))) L ∧ zFr [164, 168] [] I (zuI (zuI I 168 (8 * rb + a) (nI (A.1 (10 + a) &&& (255 - 2 ^ b)))) 164 rb (nI (A.1 2 + 1))) := by
  have hf : zFr [164, 168] [] I (zuI (zuI I 168 (8 * rb + a) (nI (A.1 (10 + a) &&& (255 - 2 ^ b)))) 164 rb (nI (A.1 2 + 1))) := zFr_c (zFr_c (zFr_rf _ _ _) (by decide) (by decide)) (by decide) (by decide)
  have h8 := h.2.1.1
  have hr : iFr rb I L (zuI (zuI I 168 (8 * rb + a) (nI (A.1 (10 + a) &&& (255 - 2 ^ b)))) 164 rb (nI (A.1 2 + 1))) L := iFr_c (iFr_c (iFr_rf _ _ _) (Or.inr (Or.inl ⟨by decide, by omega, by omega⟩)) (by decide)) (Or.inl ⟨by decide, rfl⟩) (by decide)
  refine ⟨?_, hr, hf⟩
  have s164 : (zuI (zuI I 168 (8 * rb + a) (nI (A.1 (10 + a) &&& (255 - 2 ^ b)))) 164 rb (nI (A.1 2 + 1))) 164 rb = nI (A.1 2 + 1) := zuI_v _ _ _ _
  have s168 : ∀ j, (zuI (zuI I 168 (8 * rb + a) (nI (A.1 (10 + a) &&& (255 - 2 ^ b)))) 164 rb (nI (A.1 2 + 1))) 168 j = if j = 8 * rb + a then nI (A.1 (10 + a) &&& (255 - 2 ^ b)) else I 168 j := by
    intro j
    rw [zuI_ne (by decide)]
    by_cases z : j = 8 * rb + a
    · rw [if_pos z, z, zuI_v]
    · rw [if_neg z, zuI_o z]
  generalize zuI (zuI I 168 (8 * rb + a) (nI (A.1 (10 + a) &&& (255 - 2 ^ b)))) 164 rb (nI (A.1 2 + 1)) = I2 at hf s164 s168
  have e : ∀ c, c ≠ 160 → c ≠ 164 → c ≠ 168 → I2 c = I c := fun c h1 h2 h3 => hf.1 c (by simp; omega) h1
  have o : ∀ j, j ≠ 2 → j ≠ 10 + a → (aBl A a b).1 j = A.1 j := fun j h1 h2 => by unfold aBl; rw [aU_o h1, aU_o h2]
  have o2 : (aBl A a b).1 2 = A.1 2 + 1 := aU_v _ _ _
  have oa : (aBl A a b).1 (10 + a) = A.1 (10 + a) &&& (255 - 2 ^ b) := by unfold aBl; rw [aU_o (by omega), aU_v]
  have cc : (aBl A a b).2 = A.2 := rfl
  obtain ⟨m1, m2, m3, m4, m5, m6, m7, m8, m9, m10, m11⟩ := h
  unfold iM
  rw [cc, o2, o 0 (by omega) (by omega), o 1 (by omega) (by omega), o 3 (by omega) (by omega), o 4 (by omega) (by omega), o 5 (by omega) (by omega), o 6 (by omega) (by omega), o (30 + A.1 3) (by omega) (by omega), hf.2 29 (by simp), hf.2 30 (by simp), hf.2 31 (by simp), hf.2 32 (by simp), e 163 (by decide) (by decide) (by decide), e 167 (by decide) (by decide) (by decide), e 165 (by decide) (by decide) (by decide), e 166 (by decide) (by decide) (by decide), e 172 (by decide) (by decide) (by decide), e 171 (by decide) (by decide) (by decide), e 173 (by decide) (by decide) (by decide), e 169 (by decide) (by decide) (by decide), e 170 (by decide) (by decide) (by decide)]
  refine ⟨m1, m2, m3, ⟨by omega, s164⟩, m5, m6, m7, m8, fun k hk => ?_, m10, fun i hi => ?_⟩
  · rw [s168, o (20 + k) (by omega) (by omega)]
    by_cases z : k = a
    · subst z
      rw [if_pos rfl, oa]
      refine ⟨Nat.lt_of_le_of_lt Nat.and_le_left (m9 k hk).1, rfl, (m9 k hk).2.2⟩
    · rw [if_neg (by omega), o (10 + k) (by omega) (by omega)]
      exact m9 k hk
  · have h6 := m5.1
    rw [o (30 + (i + 1)) (by omega) (by omega), o (30 + i) (by omega) (by omega), vCd_c (e 175 (by decide) (by decide) (by decide)) (e 176 (by decide) (by decide) (by decide))]
    exact m11 i hi
end IM2
