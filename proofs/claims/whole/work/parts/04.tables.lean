/-! ===== z, 1: cells by number; the relation to the machine's heap ===== -/
abbrev zI : Type := Nat → Nat → Int32
abbrev zL : Type := Nat → Nat → Int64
abbrev zP : Type := Nat → Nat → Option Nat
abbrev zY : Type := MethodName × ByteArray × Nat × Option FieldType
abbrev zG : Type := Nat × va_G × (Nat → ClassId) × (Nat → Nat) × (Nat → Nat)
abbrev zQt : Type := Option Value → zI → zL → zP → Nat → Prop
abbrev zV : Type := List (Option Value)
def zad (G : zG) (a : Nat) : Nat := if a < 1000000 then G.1 + a else if a < 2000000 then G.2.2.2.1 (a - 1000000) else G.2.2.2.2 (a - 2000000)
def ztr (G : zG) (v : Value) : Value := match v with
  | .ref a => .ref (zad G a)
  | v => v
def zrf (G : zG) (r : Option Nat) : Value := match r with
  | none => .null
  | some b => .ref (zad G b)
theorem zad_own {G : zG} {a : Nat} (h : a < 1000000) : zad G a = G.1 + a := if_pos h
theorem zrf_eq (G : zG) (r : Option Nat) : zrf G r = va_rf (r.map (zad G)) := by cases r <;> rfl
def zRR (c : Nat) : String := match c with
  | 0 => RX0
  | 1 => RX1
  | 2 => RX2
  | 3 => RX4
  | 4 => RX5
  | 5 => RX6
  | 6 => RX7
  | 7 => RX8
  | 8 => RX9
  | 9 => RX10
  | 10 => RX11
  | _ => RX12
def zTT (c : Nat) : u_T := match c with
  | 0 => TX0
  | 1 => TX1
  | 2 => TX2
  | 3 => TX4
  | 4 => TX5
  | 5 => TX6
  | 6 => TX7
  | 7 => TX8
  | 8 => TX9
  | 9 => TX10
  | 10 => TX11
  | _ => TX12
def zty (c : Nat) : Nat → FieldType := match c with
  | 0 => tyX0
  | 1 => tyX1
  | 2 => tyX2
  | 3 => tyX4
  | 4 => tyX5
  | 5 => tyX6
  | 6 => tyX7
  | 7 => tyX8
  | 8 => tyX9
  | 9 => tyX10
  | 10 => tyX11
  | _ => tyX12
def znf (c : Nat) : Nat := match c with
  | 0 => 2
  | 1 => 7
  | 2 => 12
  | 3 => 6
  | 4 => 9
  | 5 => 7
  | 6 => 7
  | 7 => 2
  | 8 => 7
  | 9 => 2
  | 10 => 13
  | _ => 68
theorem zcl {c : Nat} (h : c < 12) : vwCl[c]? = some (zRR c, zTT c, znf c) := by
  rcases (show c = 0 ∨ c = 1 ∨ c = 2 ∨ c = 3 ∨ c = 4 ∨ c = 5 ∨ c = 6 ∨ c = 7 ∨ c = 8 ∨ c = 9 ∨ c = 10 ∨ c = 11 by omega) with h | h | h | h | h | h | h | h | h | h | h | h <;> subst h <;> rfl
def zTb : List Cond := lw_tbl.filter goodWord
def zIsN : Cond → Bool
  | .fieldLinkNest _ _ _ _ _ _ => true
  | .methodLinkNest _ _ _ _ => true
  | _ => false
def zNs : List Cond := lw_tbl.filter zIsN
theorem zTb_in (i : Nat) {w : Cond} (h : lw_tbl[i]? = some w) (hg : goodWord w = true) : w ∈ zTb := List.mem_filter.mpr ⟨List.mem_of_getElem? h, hg⟩
theorem zNs_in (i : Nat) {w : Cond} (h : lw_tbl[i]? = some w) (hg : zIsN w = true) : w ∈ zNs := List.mem_filter.mpr ⟨List.mem_of_getElem? h, hg⟩
theorem zTb_good : GoodIn zTb zTb := fun w h => ⟨h, good_of_word (List.mem_filter.mp h).2⟩
set_option maxRecDepth 20000 in
theorem zin_X0 : ∀ w ∈ u_ws RX0 TX0 2, w ∈ zTb := by decide +kernel
set_option maxRecDepth 20000 in
theorem zin_X1 : ∀ w ∈ u_ws RX1 TX1 7, w ∈ zTb := by decide +kernel
set_option maxRecDepth 20000 in
theorem zin_X2 : ∀ w ∈ u_ws RX2 TX2 12, w ∈ zTb := by decide +kernel
set_option maxRecDepth 20000 in
theorem zin_X4 : ∀ w ∈ u_ws RX4 TX4 6, w ∈ zTb := by decide +kernel
set_option maxRecDepth 20000 in
theorem zin_X5 : ∀ w ∈ u_ws RX5 TX5 9, w ∈ zTb := by decide +kernel
set_option maxRecDepth 20000 in
theorem zin_X6 : ∀ w ∈ u_ws RX6 TX6 7, w ∈ zTb := by decide +kernel
set_option maxRecDepth 20000 in
theorem zin_X7 : ∀ w ∈ u_ws RX7 TX7 7, w ∈ zTb := by decide +kernel
set_option maxRecDepth 20000 in
theorem zin_X8 : ∀ w ∈ u_ws RX8 TX8 2, w ∈ zTb := by decide +kernel
set_option maxRecDepth 20000 in
theorem zin_X9 : ∀ w ∈ u_ws RX9 TX9 7, w ∈ zTb := by decide +kernel
set_option maxRecDepth 20000 in
theorem zin_X10 : ∀ w ∈ u_ws RX10 TX10 2, w ∈ zTb := by decide +kernel
set_option maxRecDepth 20000 in
theorem zin_X11 : ∀ w ∈ u_ws RX11 TX11 13, w ∈ zTb := by decide +kernel
set_option maxRecDepth 20000 in
theorem zin_X12 : ∀ w ∈ u_ws RX12 TX12 68, w ∈ zTb := by decide +kernel
theorem zin (c : Nat) (h : c < 12) : ∀ w ∈ u_ws (zRR c) (zTT c) (znf c), w ∈ zTb := by
  rcases (show c = 0 ∨ c = 1 ∨ c = 2 ∨ c = 3 ∨ c = 4 ∨ c = 5 ∨ c = 6 ∨ c = 7 ∨ c = 8 ∨ c = 9 ∨ c = 10 ∨ c = 11 by omega) with h | h | h | h | h | h | h | h | h | h | h | h <;> subst h
  · exact zin_X0
  · exact zin_X1
  · exact zin_X2
  · exact zin_X4
  · exact zin_X5
  · exact zin_X6
  · exact zin_X7
  · exact zin_X8
  · exact zin_X9
  · exact zin_X10
  · exact zin_X11
  · exact zin_X12
theorem ztyok (c : Nat) (h : c < 12) : ∀ k, k < znf c → parseFieldDescriptor (zTT c k).2.2.1 = some (zty c k) := by
  rcases (show c = 0 ∨ c = 1 ∨ c = 2 ∨ c = 3 ∨ c = 4 ∨ c = 5 ∨ c = 6 ∨ c = 7 ∨ c = 8 ∨ c = 9 ∨ c = 10 ∨ c = 11 by omega) with h | h | h | h | h | h | h | h | h | h | h | h <;> subst h
  · exact tyX0_ok
  · exact tyX1_ok
  · exact tyX2_ok
  · exact tyX4_ok
  · exact tyX5_ok
  · exact tyX6_ok
  · exact tyX7_ok
  · exact tyX8_ok
  · exact tyX9_ok
  · exact tyX10_ok
  · exact tyX11_ok
  · exact tyX12_ok
theorem znm (c : Nat) (h : c < 12) : ∀ a, a < znf c → ∀ b, b < znf c → a ≠ b → (zTT c a).2.1 ≠ (zTT c b).2.1 := by
  rcases (show c = 0 ∨ c = 1 ∨ c = 2 ∨ c = 3 ∨ c = 4 ∨ c = 5 ∨ c = 6 ∨ c = 7 ∨ c = 8 ∨ c = 9 ∨ c = 10 ∨ c = 11 by omega) with h | h | h | h | h | h | h | h | h | h | h | h <;> subst h
  · exact nmX0
  · exact nmX1
  · exact nmX2
  · exact nmX4
  · exact nmX5
  · exact nmX6
  · exact nmX7
  · exact nmX8
  · exact nmX9
  · exact nmX10
  · exact nmX11
  · exact nmX12
